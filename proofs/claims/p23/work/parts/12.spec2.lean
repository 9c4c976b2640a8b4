def NN (g : Nat → Int32) : Prop := ∃ N, g 7 = nI N ∧ 1 ≤ N ∧ N ≤ 200
theorem inv_NN {c : Nat} {g : Nat → Int32} {f : Nat → Nat → Int32} (h : Inv c g f) : NN g := by
  obtain ⟨N, h1, h2, h3, -⟩ := h.1; exact ⟨N, h1, h2, h3⟩
theorem isW_I (x : Int32) : isW x 0 199 = isI x := by
  have e : ((199 : Int32) < x) ↔ ((200 : Int32) ≤ x) := by
    rw [Int32.lt_iff_toInt_lt, Int32.le_iff_toInt_le]
    have h1 : (199 : Int32).toInt = 199 := rfl
    have h2 : (200 : Int32).toInt = 200 := rfl
    omega
  simp only [isW, isI, decide_eq_decide.mpr e]
theorem isW_F {g : Nat → Int32} (h : NN g) (x : Int32) : isW x 0 (g 7 - 1) = isF g x := by
  obtain ⟨N, e, h1, h2⟩ := h
  have e1 : g 7 - 1 = nI (N - 1) := by rw [e]; exact pk_sub (b := 1) h1
  have e3 : (nI (N - 1)).toInt = N - 1 := by rw [nI_toInt (by omega)]; omega
  have e4 : (nI N).toInt = N := nI_toInt (by omega)
  have h3 : (200 : Int32).toInt = 200 := rfl
  have q1 : (g 7 - 1 < x) ↔ ((200 : Int32) ≤ x ∨ g 7 ≤ x) := by
    rw [e1, e, Int32.lt_iff_toInt_lt, Int32.le_iff_toInt_le, Int32.le_iff_toInt_le, e3, e4, h3]; omega
  unfold isW isF isI
  by_cases a : (200 : Int32) ≤ x <;> by_cases b : g 7 ≤ x <;> simp [q1, a, b]
theorem and1 (x : Int32) : x &&& 1 = 0 ∨ x &&& 1 = 1 := by
  obtain ⟨j, hj, e⟩ := pk_andE x (m := 1) 1 (by decide)
  rw [e]
  rcases (show j = 0 ∨ j = 1 by omega) with q | q <;> subst q
  · exact Or.inl rfl
  · exact Or.inr rfl
def lateM (g : Nat → Int32) (f : Nat → Nat → Int32) (k : Nat) : Bool := decide (f 1 k = 0) && !decide (g 0 - f 0 k ≤ g 5)
theorem lateB_in {g : Nat → Int32} {f : Nat → Nat → Int32} {k : Nat} (h : ¬ g 7 ≤ nI k) : lateB g f k = lateM g f k := by simp only [lateB, lateM, decide_eq_false h]; rfl
theorem lateB_out {g : Nat → Int32} {f : Nat → Nat → Int32} {k : Nat} (h : g 7 ≤ nI k) : lateB g f k = false := by simp only [lateB, decide_eq_true h]; rfl
theorem hereB_out {g : Nat → Int32} {f : Nat → Nat → Int32} {k : Nat} (h : g 7 ≤ nI k) : hereB g f k = false := by simp only [hereB, decide_eq_true h]; rfl
theorem rsB_out {g : Nat → Int32} {f : Nat → Nat → Int32} {k : Nat} (h : g 7 ≤ nI k) : rsB g f k = false := by simp only [rsB, hereB_out h]; rfl
theorem cnt_cut {p : Nat → Bool} {N : Nat} : ∀ d, (∀ k, N ≤ k → k < N + d → p k = false) → cnt p (N + d) = cnt p N
  | 0, _ => rfl
  | d + 1, h => by
    rw [← Nat.add_assoc, cnt_f (h (N + d) (by omega) (by omega))]
    exact cnt_cut d (fun k h1 h2 => h k h1 (by omega))
theorem cnt_200 {p : Nat → Bool} {N : Nat} (hN : N ≤ 200) (h : ∀ k, N ≤ k → k < 200 → p k = false) : cnt p 200 = cnt p N := by
  have e := cnt_cut (p := p) (N := N) (200 - N) (fun k h1 h2 => h k h1 (by omega))
  rw [show N + (200 - N) = 200 by omega] at e
  exact e
def foM (g : Nat → Int32) (f : Nat → Nat → Int32) (i : Nat) : Bool := !decide (g 9 = -1) && (!decide (nI i ≤ g 9) && allR (foB f) (g 9 + 1).toNatClampNeg (i - (g 9 + 1).toNatClampNeg))
def rowM (g : Nat → Int32) (f : Nat → Nat → Int32) (i : Nat) : Int32 := if ¬ g 11 ≤ 0 ∧ foM g f i = true ∧ g 0 - f 0 i = g 10 then g 11 + 1 else 1
theorem row_eq {c : Nat} {g : Nat → Int32} {f : Nat → Nat → Int32} {i : Nat} (h : Inv c g f) (hi : i < 200) : rowM g f i = rowD g f i := by
  obtain ⟨B, b1, b2, b3, b4, b5⟩ := inv_B h
  have hr := h.2.2.2.2.2.2.2.1
  by_cases z : g 11 ≤ 0
  · have e0 : g 11 = 0 := by
      have z2 := Int32.le_iff_toInt_le.mp z
      have : (0 : Int32).toInt = 0 := rfl
      exact Int32.toInt_inj.mp (by omega)
    unfold rowM rowD
    rw [if_neg (by simp [z])]
    rw [e0]
    split <;> rfl
  · have hB : B ≠ 0 := fun q => z (by rw [b3 q]; exact Int32.le_refl 0)
    have h9 : ¬ g 9 = -1 := by
      intro q
      rw [q] at b4
      have : nI B = nI 0 := b4.symm
      exact hB ((nI_eq (by omega) (by omega)).mp this)
    have e1 : (¬ nI i ≤ g 9) ↔ B ≤ i := by rw [Int32.not_le, b1]; exact lt_pred b2 hi
    have e2 : foM g f i = foD g f i := by
      unfold foM foD
      rw [b5, decide_eq_false h9]
      by_cases q : B ≤ i
      · rw [decide_eq_false (e1.mpr q), decide_eq_true q]; rfl
      · rw [decide_eq_true (Classical.not_not.mp (fun z => q (e1.mp z))), decide_eq_false q]; rfl
    unfold rowM rowD
    rw [e2]
    by_cases q : g 0 - f 0 i = g 10 <;> by_cases q2 : foD g f i = true <;> simp [z, q, q2]
def lastR (q : Nat → Bool) : Nat → Int32
  | 0 => -1
  | k + 1 => if q k = true then nI k else lastR q k
/-- one issue is as late as can be once only -/
theorem last_first {q : Nat → Bool} (hu : ∀ i j, i < 200 → j < 200 → q i = true → q j = true → i = j) : ∀ (n i : Nat), i + n = 200 → (∀ k, k < i → q k = false) → firstR q i n = lastR q 200 := by
  have none : ∀ m, m ≤ 200 → (∀ k, k < m → q k = false) → lastR q m = -1 := by
    intro m
    induction m with
    | zero => intro _ _; rfl
    | succ m ih => intro hm h; unfold lastR; rw [if_neg (by rw [h m (Nat.lt_succ_self m)]; decide)]; exact ih (by omega) (fun k hk => h k (by omega))
  have one : ∀ i, i < 200 → q i = true → ∀ m, i < m → m ≤ 200 → lastR q m = nI i := by
    intro i hi hq m
    induction m with
    | zero => intro h _; omega
    | succ m ih =>
      intro h1 h2
      unfold lastR
      by_cases z : q m = true
      · rw [if_pos z, hu m i (by omega) hi z hq]
      · rw [if_neg z]
        have : m ≠ i := fun e => z (e ▸ hq)
        exact ih (by omega) (by omega)
  intro n
  induction n with
  | zero => intro i h1 h2; rw [none 200 (Nat.le_refl _) (fun k hk => h2 k (by omega))]; rfl
  | succ n ih =>
    intro i h1 h2
    unfold firstR
    by_cases z : q i = true
    · rw [if_pos z, one i (by omega) z 200 (by omega) (Nat.le_refl _)]
    · rw [if_neg z]
      exact ih (i + 1) (by omega) (fun k hk => by
        by_cases e : k = i
        · subst e; exact Bool.eq_false_iff.mpr z
        · exact h2 k (by omega))
def inPat (g : Nat → Int32) : Prop := (∃ S, g 2 = nI S ∧ 1 ≤ S ∧ S ≤ 20) ∧ (g 3 = 0 ∨ g 3 = 1)
theorem inv_pat {c : Nat} {g : Nat → Int32} {f : Nat → Nat → Int32} (h : Inv c g f) : inPat g := ⟨h.2.2.1, h.2.2.2.2.2.2.2.2.1⟩
theorem pat_1 {g : Nat → Int32} (h : inPat g) : (1 : Int32) ≤ g 2 := by
  obtain ⟨S, e, h1, h2⟩ := h.1
  rw [e]; exact nI_le (a := 1) h1 (by omega)
theorem div_S {S k : Nat} (h1 : 1 ≤ S) (h2 : S ≤ 20) (hk : k < 200) : nI k / nI S = nI (k / S) ∧ nI k - nI k / nI S * nI S = nI (k % S) := ⟨pk_div (by omega) h1 (by omega), pk_rem (by omega) h1 (by omega)⟩
theorem fd_one {g : Nat → Int32} (h : inPat g) {v n : Int32} : ∀ i j, i < 200 → j < 200 → fdB g v n i = true → fdB g v n j = true → i = j := by
  intro i j hi hj h1 h2
  obtain ⟨S, e, s1, s2⟩ := h.1
  simp only [fdB, Bool.and_eq_true, decide_eq_true_eq] at h1 h2
  have ev := h1.1.trans h2.1.symm
  have en := h1.2.trans h2.2.symm
  have p1 := pat_1 h
  obtain ⟨a1, a2⟩ := div_S s1 s2 hi
  obtain ⟨b1, b2⟩ := div_S s1 s2 hj
  unfold volD at ev
  unfold numD at en
  rw [if_pos p1, if_pos p1, e, a1, b1, nI_1, nI_1] at ev
  have ev2 := (nI_eq (by have := Nat.div_le_self i S; omega) (by have := Nat.div_le_self j S; omega)).mp ev
  by_cases z : g 3 = 0
  · rw [if_pos z, if_pos z, nI_1, nI_1] at en
    have := (nI_eq (by omega) (by omega)).mp en
    omega
  · rw [if_neg z, if_neg z, if_pos p1, if_pos p1, e, a2, b2, nI_1, nI_1] at en
    have m1 := Nat.mod_lt i (show S > 0 by omega)
    have m2 := Nat.mod_lt j (show S > 0 by omega)
    have en2 := (nI_eq (by omega) (by omega)).mp en
    have d1 := Nat.div_add_mod i S
    have d2 := Nat.div_add_mod j S
    have q1 : i / S = j / S := by omega
    have q2 : i % S = j % S := by omega
    rw [← d1, ← d2, q1, q2]
