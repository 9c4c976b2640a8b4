theorem lastR_t {q : Nat → Bool} {i : Nat} (h : q i = true) : lastR q (i + 1) = nI i := by unfold lastR; rw [if_pos h]
theorem lastR_f {q : Nat → Bool} {i : Nat} (h : q i = false) : lastR q (i + 1) = lastR q i := by rw [lastR, if_neg (by rw [h]; decide)]
def askT (g : Nat → Int32) (p : Int32) : Int32 := if isF g p = true then 0 else 1
def askV (g : Nat → Int32) (h : Nat → Int32) (p : Int32) : Int32 := if isF g p = true then h p.toNatClampNeg else 0
theorem isF_k {g : Nat → Int32} {p : Int32} (h : isF g p = true) : ∃ k, k < 200 ∧ p = nI k ∧ p.toNatClampNeg = k := by
  obtain ⟨k, hk, ek⟩ : ∃ k, k < 200 ∧ p = nI k := isI_of (by simp only [isF, Bool.and_eq_true] at h; exact h.1)
  exact ⟨k, hk, ek, by rw [ek]; exact nI_clamp (by omega)⟩
theorem isI_k {p : Int32} (h : isI p = true) : ∃ k, k < 200 ∧ p = nI k ∧ p.toNatClampNeg = k := by
  obtain ⟨k, hk, ek⟩ := isI_of h
  exact ⟨k, hk, ek, by rw [ek]; exact nI_clamp (by omega)⟩
def ciG (p0 p1 : Int32) : Bool := isW p1 0 5 && !decide (200 ≤ p0 + p1)
def thC (g : Nat → Int32) (f : Nat → Nat → Int32) (p0 p1 : Int32) : Int32 := if isI p0 = false then 1 else if ciG p0 p1 = false then 2 else if allR (opB g f) p0.toNatClampNeg (p0.toNatClampNeg + p1.toNatClampNeg + 1 - p0.toNatClampNeg) = true then 0 else 3
theorem ciG_k {p0 p1 : Int32} {i : Nat} (h0 : p0 = nI i) (hi : i < 200) (h : ciG p0 p1 = true) : ∃ j, j ≤ 5 ∧ p1 = nI j ∧ p1.toNatClampNeg = j ∧ i + j < 200 := by
  simp only [ciG, Bool.and_eq_true, Bool.not_eq_true', decide_eq_false_iff_not] at h
  obtain ⟨j, j1, j2, j3⟩ := isW_nI (a := 0) (b := 5) (by decide) (by decide) h.1
  refine ⟨j, j2, j3, by rw [j3]; exact nI_clamp (by omega), ?_⟩
  have h2 := h.2
  rw [h0, j3, nI_add] at h2
  exact nge_200 h2 (by
    rcases Nat.lt_or_ge 200 (i + j) with q | q
    · exact absurd (nI_le (a := 200) (by omega) (by omega)) h2
    · exact q)
def skT (g : Nat → Int32) (f : Nat → Nat → Int32) (p : Int32) : Int32 := if isF g p = false then 1 else if f 1 p.toNatClampNeg = 0 then 0 else 2
def rgK (g : Nat → Int32) (f : Nat → Nat → Int32) (p : Int32) : Int32 := scan (rsB g f) p 0 200 0
/-- the k-th range's first issue: what it is, and that there is one just when there are so many -/
theorem scan_kth {q : Nat → Bool} {p : Int32} : ∀ (n i : Nat), i + n = 200 → (∃ k, i ≤ k ∧ k < 200 ∧ q k = true ∧ nI (cnt q k) = p ∧ scan q p i n (cnt q i) = nI k) ∨ ((∀ k, i ≤ k → k < 200 → q k = true → nI (cnt q k) ≠ p) ∧ scan q p i n (cnt q i) = -1)
  | 0, i, h => Or.inr ⟨fun k h1 h2 => by omega, rfl⟩
  | n + 1, i, h => by
    unfold scan
    by_cases z : q i = true
    · rw [if_pos z]
      by_cases e : nI (cnt q i) = p
      · rw [if_pos e]
        exact Or.inl ⟨i, Nat.le_refl _, by omega, z, e, rfl⟩
      · rw [if_neg e]
        have e2 : cnt q i + 1 = cnt q (i + 1) := (cnt_t z).symm
        rw [e2]
        rcases scan_kth (q := q) (p := p) n (i + 1) (by omega) with ⟨k, k1, k2, k3, k4, k5⟩ | ⟨k1, k2⟩
        · exact Or.inl ⟨k, by omega, k2, k3, k4, k5⟩
        · exact Or.inr ⟨fun k h1 h2 h3 => by
            by_cases ek : k = i
            · subst ek; exact e
            · exact k1 k (by omega) h2 h3, k2⟩
    · rw [if_neg z]
      have e2 : cnt q i = cnt q (i + 1) := (cnt_f (Bool.eq_false_iff.mpr z)).symm
      rw [e2]
      rcases scan_kth (q := q) (p := p) n (i + 1) (by omega) with ⟨k, k1, k2, k3, k4, k5⟩ | ⟨k1, k2⟩
      · exact Or.inl ⟨k, by omega, k2, k3, k4, k5⟩
      · exact Or.inr ⟨fun k h1 h2 h3 => by
          by_cases ek : k = i
          · subst ek; exact absurd h3 z
          · exact k1 k (by omega) h2 h3, k2⟩
theorem cnt_mono {q : Nat → Bool} {a : Nat} : ∀ d, cnt q a ≤ cnt q (a + d)
  | 0 => Nat.le_refl _
  | d + 1 => Nat.le_trans (cnt_mono d) (by rw [← Nat.add_assoc]; show _ ≤ cnt q (a + d) + _; omega)
/-- below the count, there is such a place -/
theorem cnt_kth {q : Nat → Bool} {j : Nat} : ∀ n, j < cnt q n → ∃ k, k < n ∧ q k = true ∧ cnt q k = j
  | 0, h => absurd h (Nat.not_lt_zero _)
  | n + 1, h => by
    by_cases z : q n = true
    · rw [cnt_t z] at h
      by_cases e : cnt q n = j
      · exact ⟨n, Nat.lt_succ_self n, z, e⟩
      · obtain ⟨k, k1, k2, k3⟩ := cnt_kth n (show j < cnt q n by omega)
        exact ⟨k, by omega, k2, k3⟩
    · rw [cnt_f (Bool.eq_false_iff.mpr z)] at h
      obtain ⟨k, k1, k2, k3⟩ := cnt_kth n h
      exact ⟨k, by omega, k2, k3⟩
/-- the reference's test of k, against the desk's search -/
theorem rg_test {g : Nat → Int32} {f : Nat → Nat → Int32} {p : Int32} : (isW p 0 (nI (cnt (rsB g f) 200) - 1) = true → ∃ k, k < 200 ∧ rsB g f k = true ∧ p = nI (cnt (rsB g f) k) ∧ rgK g f p = nI k) ∧ (isW p 0 (nI (cnt (rsB g f) 200) - 1) = false → rgK g f p = -1) := by
  have hc := cnt_le (rsB g f) 200
  have e9 : (1 : Int32).toInt = 1 := rfl
  have e1 : (nI (cnt (rsB g f) 200) - 1).toInt = (cnt (rsB g f) 200 : Int) - 1 := by
    have e := nI_toInt (n := cnt (rsB g f) 200) (by omega)
    rw [i_sub (by omega) (by omega)]; omega
  have e0 : (0 : Int32).toInt = 0 := rfl
  have hs := scan_kth (q := rsB g f) (p := p) 200 0 rfl
  have hz : scan (rsB g f) p 0 200 (cnt (rsB g f) 0) = rgK g f p := rfl
  rw [hz] at hs
  refine ⟨fun h => ?_, fun h => ?_⟩
  · simp only [isW, Bool.and_eq_true, Bool.not_eq_true', decide_eq_false_iff_not] at h
    have h1 := h.1
    have h2 := h.2
    rw [Int32.lt_iff_toInt_lt] at h1 h2
    obtain ⟨j, hj, ej⟩ := nI_of h.1
    have e2 : p.toInt = j := by rw [ej]; exact nI_toInt hj
    obtain ⟨k, k1, k2, k3⟩ := cnt_kth (q := rsB g f) (j := j) 200 (by omega)
    rcases hs with ⟨k', q1, q2, q3, q4, q5⟩ | ⟨q1, -⟩
    · exact ⟨k', q2, q3, q4.symm, q5⟩
    · exact absurd (by rw [k3, ej]) (q1 k (Nat.zero_le _) k1 k2)
  · rcases hs with ⟨k, q1, q2, q3, q4, q5⟩ | ⟨-, q2⟩
    · exfalso
      have h5 : cnt (rsB g f) k < cnt (rsB g f) 200 := by
        have := cnt_mono (q := rsB g f) (a := k + 1) (200 - (k + 1))
        rw [show k + 1 + (200 - (k + 1)) = 200 by omega, cnt_t q3] at this
        omega
      have e2 : p.toInt = (cnt (rsB g f) k : Int) := by rw [← q4]; exact nI_toInt (by omega)
      have : isW p 0 (nI (cnt (rsB g f) 200) - 1) = true := by
        simp only [isW, Bool.and_eq_true, Bool.not_eq_true', decide_eq_false_iff_not, Int32.lt_iff_toInt_lt]
        omega
      rw [this] at h; exact absurd h (by decide)
    · exact q2
def thB (h : Nat → Int32) (k : Nat) : Bool := !decide (h k = 0)
def gvU (h : Nat → Int32) (i j : Nat) : Nat → Int32 := fun k => if i ≤ k ∧ k ≤ j then 1 else h k
def okG (p0 p1 : Int32) : Bool := isI p0 && isW p1 p0 199
theorem okG_k {p0 p1 : Int32} (h : okG p0 p1 = true) : ∃ i j, p0 = nI i ∧ p1 = nI j ∧ i ≤ j ∧ j < 200 ∧ p0.toNatClampNeg = i ∧ p1.toNatClampNeg = j := by
  simp only [okG, Bool.and_eq_true] at h
  obtain ⟨i, hi, ei, ec⟩ := isI_k h.1
  have h2 := h.2
  simp only [isW, Bool.and_eq_true, Bool.not_eq_true', decide_eq_false_iff_not, Int32.lt_iff_toInt_lt] at h2
  have e0 : p0.toInt = i := by rw [ei]; exact nI_toInt (by omega)
  have e1 : (199 : Int32).toInt = 199 := rfl
  have e2 : p1 = nI p1.toInt.toNat := i_nat (by omega)
  refine ⟨i, p1.toInt.toNat, ei, e2, by omega, by omega, ec, ?_⟩
  have := nI_clamp (n := p1.toInt.toNat) (by omega)
  rw [← e2] at this; exact this
def onB (g : Nat → Int32) (f : Nat → Nat → Int32) (p : Int32) (k : Nat) : Bool := if p = 0 then (thB (f 4) k && !hereB g f k) else (hereB g f k && !thB (f 4) k)
