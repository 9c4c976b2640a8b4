/-! what the law's readers say -/
def nxL (g : Nat → Int32) (b s : Int32) : Int32 := nI (nx g (d0I (upd g 8 s) b).toNat)
def PT (g : Nat → Int32) : Prop := (∃ P, g 1 = nI P ∧ 1 ≤ P ∧ P ≤ 90) ∧ (∃ K, g 4 = nI K ∧ K ≤ 4094)
def SH (s : Int32) : Prop := -7680 ≤ s.toInt ∧ s.toInt ≤ 7680
def DY (b : Int32) : Prop := ∃ d, b = nI d ∧ d ≤ 1800000
theorem nd_L (g : Nat → Int32) (f : Nat → Nat → Int32) : nd g f = nxL g (f 0 ((g 7).toNatClampNeg - 1)) (g 8) := rfl
theorem inv_PT {c : Nat} {g : Nat → Int32} {f : Nat → Nat → Int32} (h : Inv c g f) : PT g := ⟨h.2.1, h.2.2.2.1⟩
theorem inv_SH {c : Nat} {g : Nat → Int32} {f : Nat → Nat → Int32} (h : Inv c g f) (hc : c ≤ 512) : SH (g 8) := by
  have := h.2.2.2.2.2.1
  unfold SH; omega
theorem SH_0 : SH 0 := ⟨by decide, by decide⟩
theorem inv_DY {c : Nat} {g : Nat → Int32} {f : Nat → Nat → Int32} (h : Inv c g f) {N k : Nat} (hN : g 7 = nI N) (hN2 : N ≤ 200) (hk : k < N) : DY (f 0 k) := by
  obtain ⟨N', e, h1, h2, h3, h4⟩ := inv_N h
  have eN : N' = N := (nI_eq (by omega) (by omega)).mp (e.symm.trans hN)
  subst eN
  obtain ⟨d, q1, q2⟩ := h4 k hk
  exact ⟨d, q1, by omega⟩
/-- the walk of 'next', before the months are looked at -/
theorem nx_0 {g : Nat → Int32} {b s : Int32} (hp : PT g) (hb : DY b) (hs : SH s) : ∃ K n0 r0, g 4 = nI K ∧ K ≤ 4094 ∧ n0 ≤ r0 ∧ r0 < n0 + 360 ∧ n0 ≤ 1900000 ∧ bar g (nI r0) = false ∧ nxL g b s = nI (nx g n0) ∧ (b < b + g 1 + s → b + g 1 + s = nI n0) ∧ (¬ b < b + g 1 + s → b + 1 = nI n0) := by
  obtain ⟨⟨P, p1, p2, p3⟩, ⟨K, k1, k2⟩⟩ := hp
  obtain ⟨d, d1, d2⟩ := hb
  have h := d0_all (g := upd g 8 s) (c := 512) d1 d2 p1 p2 p3 (Nat.le_refl _) ⟨by have := hs.1; show _ ≤ s.toInt; omega, by have := hs.2; show s.toInt ≤ _; omega⟩
  obtain ⟨-, ⟨h2, h3⟩, h4⟩ := h
  obtain ⟨r0, r1, r2, r3⟩ := num_unbar (n := (d0I (upd g 8 s) b).toNat) k1 k2 (by omega)
  exact ⟨K, (d0I (upd g 8 s) b).toNat, r0, k1, k2, r1, r2, by omega, r3, rfl, h2, h3⟩
theorem nxL_gt {g : Nat → Int32} {b s : Int32} {d : Nat} (hd : b = nI d) (hd2 : d < 2 ^ 31) : ∃ n, nxL g b s = nI n ∧ d < n := by
  refine ⟨nx g (d0I (upd g 8 s) b).toNat, rfl, ?_⟩
  have h1 := (nxF_le g 400 (d0I (upd g 8 s) b).toNat).1
  have e : b.toInt = d := by rw [hd]; exact nI_toInt hd2
  have h2 : (d : Int) + 1 ≤ d0I (upd g 8 s) b := by unfold d0I; rw [e]; exact Int.le_max_right _ _
  show d < nxF g 400 _
  omega
theorem lt_m1 {B : Nat} (hB : B ≤ 200) : nI B - 1 < 0 ↔ B = 0 := by
  have e9 : (1 : Int32).toInt = 1 := rfl
  have e0 : (0 : Int32).toInt = 0 := rfl
  have e1 : (nI B - 1).toInt = B - 1 := by
    have e := nI_toInt (n := B) (by omega)
    rw [i_sub (by omega) (by omega)]; omega
  rw [Int32.lt_iff_toInt_lt, e1, e0]
  omega
/-! labels -/
theorem fd_none {q : Nat → Bool} : ∀ (n i : Nat), (∀ k, i ≤ k → k < i + n → q k = false) → firstR q i n = -1
  | 0, _, _ => rfl
  | n + 1, i, h => by
    unfold firstR
    rw [if_neg (by rw [h i (Nat.le_refl _) (by omega)]; decide)]
    exact fd_none n (i + 1) (fun k h1 h2 => h k (by omega) (by omega))
theorem fd_some {q : Nat → Bool} {j : Nat} (hq : q j = true) : ∀ (n i : Nat), i ≤ j → j < i + n → (∀ k, i ≤ k → k < j → q k = false) → firstR q i n = nI j
  | 0, i, h1, h2, _ => by omega
  | n + 1, i, h1, h2, h => by
    unfold firstR
    by_cases z : i = j
    · subst z; rw [if_pos hq]
    · rw [if_neg (by rw [h i (Nat.le_refl _) (by omega)]; decide)]
      exact fd_some hq n (i + 1) (by omega) (by omega) (fun k h3 h4 => h k (by omega) h4)
theorem vn_nI {g : Nat → Int32} (h : inPat g) {i : Nat} (hi : i < 200) : ∃ S, g 2 = nI S ∧ 1 ≤ S ∧ S ≤ 20 ∧ volD g (nI i) = nI (i / S + 1) ∧ numD g (nI i) = nI (if g 3 = 0 then i + 1 else i % S + 1) := by
  obtain ⟨S, e, s1, s2⟩ := h.1
  obtain ⟨a1, a2⟩ := div_S s1 s2 hi
  have p1 := pat_1 h
  refine ⟨S, e, s1, s2, ?_, ?_⟩
  · unfold volD; rw [if_pos p1, e, a1, nI_1]
  · unfold numD
    by_cases z : g 3 = 0
    · rw [if_pos z, if_pos z, nI_1]
    · rw [if_neg z, if_neg z, if_pos p1, e, a2, nI_1]
theorem fd_self {g : Nat → Int32} (h : inPat g) {i : Nat} (hi : i < 200) : firstR (fdB g (volD g (nI i)) (numD g (nI i))) 0 200 = nI i := by
  have hq : fdB g (volD g (nI i)) (numD g (nI i)) i = true := by simp [fdB]
  refine fd_some hq 200 0 (Nat.zero_le _) (by omega) (fun k _ hk => ?_)
  cases z : fdB g (volD g (nI i)) (numD g (nI i)) k with
  | false => rfl
  | true => have := fd_one h k i (by omega) hi z hq; omega
theorem fd_n0 {g : Nat → Int32} (h : inPat g) (v : Int32) : firstR (fdB g v 0) 0 200 = -1 := by
  refine fd_none 200 0 (fun k _ hk => ?_)
  obtain ⟨S, -, s1, s2, -, e⟩ := vn_nI h (i := k) (by omega)
  have hz : ¬ numD g (nI k) = 0 := by
    rw [e]
    intro q
    have := (nI_eq (b := 0) (by split <;> have := Nat.mod_le k S <;> omega) (by decide)).mp (q.trans nI_0.symm)
    split at this <;> omega
  unfold fdB; rw [decide_eq_false hz, Bool.and_false]
theorem fd_v0 {g : Nat → Int32} (h : inPat g) (n : Int32) : firstR (fdB g 0 n) 0 200 = -1 := by
  refine fd_none 200 0 (fun k _ hk => ?_)
  obtain ⟨S, -, s1, s2, e, -⟩ := vn_nI h (i := k) (by omega)
  have hz : ¬ volD g (nI k) = 0 := by
    rw [e]
    intro q
    have := (nI_eq (b := 0) (by have := Nat.div_le_self k S; omega) (by decide)).mp (q.trans nI_0.symm)
    exact absurd this (Nat.succ_ne_zero _)
  unfold fdB; rw [decide_eq_false hz, Bool.false_and]
/-- a number that no issue has: behind the volume's last, where numbers begin anew -/
theorem fd_big {g : Nat → Int32} (h : inPat g) (h3 : g 3 = 1) (v : Int32) : firstR (fdB g v (g 2 + 1)) 0 200 = -1 := by
  refine fd_none 200 0 (fun k _ hk => ?_)
  obtain ⟨S, e2, s1, s2, -, e⟩ := vn_nI h (i := k) (by omega)
  have hz : ¬ numD g (nI k) = g 2 + 1 := by
    rw [e, if_neg (by rw [h3]; decide), e2, nI_1]
    intro q
    have := (nI_eq (by have := Nat.mod_le k S; omega) (by omega)).mp q
    have := Nat.mod_lt k (show S > 0 by omega)
    omega
  unfold fdB; rw [decide_eq_false hz, Bool.and_false]
/-- where numbers go on, the number has the one volume -/
theorem fd_next {g : Nat → Int32} (h : inPat g) (h3 : ¬ g 3 = 1) {i : Nat} (hi : i < 200) : firstR (fdB g (volD g (nI i) + 1) (numD g (nI i))) 0 200 = -1 := by
  have h0 : g 3 = 0 := h.2.resolve_right h3
  refine fd_none 200 0 (fun k _ hk => ?_)
  obtain ⟨S, e2, s1, s2, ev, en⟩ := vn_nI h (i := k) (by omega)
  obtain ⟨S', e2', s1', s2', ev', en'⟩ := vn_nI h hi
  have eS : S' = S := (nI_eq (by omega) (by omega)).mp (e2'.symm.trans e2)
  subst eS
  rw [if_pos h0] at en en'
  unfold fdB
  by_cases q : k = i
  · subst q
    have hz : ¬ volD g (nI k) = volD g (nI k) + 1 := by
      rw [ev, nI_1]
      intro q
      have := (nI_eq (by have := Nat.div_le_self k S'; omega) (by have := Nat.div_le_self k S'; omega)).mp q
      omega
    rw [decide_eq_false hz, Bool.false_and]
  · have hz : ¬ numD g (nI k) = numD g (nI i) := by
      rw [en, en']
      intro z
      have := (nI_eq (by omega) (by omega)).mp z
      omega
    rw [decide_eq_false hz, Bool.and_false]
/-! a desk as the law looks at it behind each step -/
def DK (g : Nat → Int32) (f : Nat → Nat → Int32) : Prop := ∃ N, g 7 = nI N ∧ 1 ≤ N ∧ N ≤ 200 ∧ f 0 0 = 0 ∧ (∀ k, k + 1 < N → f 0 k < f 0 (k + 1)) ∧ (∀ k, k < 200 → 0 ≤ f 1 k ∧ f 1 k ≤ 3) ∧ (∀ k, k < 200 → 0 ≤ f 2 k ∧ f 2 k ≤ 3)
def AF (g : Nat → Int32) (f : Nat → Nat → Int32) (n0 : Nat) (sf : Int32) : Prop := ∃ N, g 7 = nI N ∧ 1 ≤ n0 ∧ n0 ≤ N ∧ N ≤ 200 ∧ PT g ∧ SH sf ∧ SH (g 8) ∧ (∀ k, k < N → DY (f 0 k)) ∧ (∀ k, n0 ≤ k → k < N → f 0 k = nxL g (f 0 (k - 1)) (if k = n0 then sf else 0) ∧ f 0 k ≤ g 0 ∧ f 2 k = 0) ∧ (N = 200 ∨ g 0 < nd g f)
theorem foM_t {g0 : Nat → Int32} {f : Nat → Nat → Int32} {i B : Nat} (hB : (g0 9 + 1).toNatClampNeg = B) (h1 : ¬ g0 9 = -1) (h2 : ¬ nI i ≤ g0 9) : foM g0 f i = allR (foB f) B (i - B) := by
  unfold foM; rw [decide_eq_false h1, decide_eq_false h2, hB]; rfl
theorem st_foB {f : Nat → Nat → Int32} {k : Nat} (h : 0 ≤ f 1 k ∧ f 1 k ≤ 3) : foB f k = !decide (f 1 k ≤ 1) := by
  obtain ⟨j, hj, e⟩ : ∃ j : Nat, j < 4 ∧ f 1 k = nI j := by
    obtain ⟨j, hj, e⟩ := nI_of (Int32.not_lt.mpr h.1)
    refine ⟨j, ?_, e⟩
    have h2 := h.2
    rw [e] at h2
    have := (nI_leI (b := 3) hj (by decide)).mp h2
    omega
  unfold foB
  rw [e]
  rcases (show j = 0 ∨ j = 1 ∨ j = 2 ∨ j = 3 by omega) with r | r | r | r <;> subst r <;> decide
