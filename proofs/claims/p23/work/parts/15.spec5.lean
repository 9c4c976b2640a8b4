def rgA (g : Nat → Int32) (f : Nat → Nat → Int32) (p : Int32) : Int32 := if rgK g f p = -1 then 0 else 1000 * rgK g f p + nI (eoR g f (199 - (rgK g f p).toNatClampNeg) (rgK g f p).toNatClampNeg)
def rgT (g : Nat → Int32) (f : Nat → Nat → Int32) (p : Int32) : Int32 := if rgK g f p = -1 then 1 else 0
theorem nI_nm1 {k : Nat} (h : k < 200) : ¬ nI k = -1 := by
  intro q
  have e : (nI k).toInt = k := nI_toInt (by omega)
  rw [q] at e
  have : (-1 : Int32).toInt = -1 := rfl
  omega
theorem rs_here {g : Nat → Int32} {f : Nat → Nat → Int32} {k : Nat} (h : rsB g f k = true) : hereB g f k = true ∧ hereI g f (nI k - 1) = false := by
  simp only [rsB, Bool.and_eq_true, Bool.not_eq_true'] at h; exact h
theorem rs_step {q : Nat → Bool} {i k : Nat} (h : i < k) : cnt q (i + 1) ≤ cnt q k := by
  have := cnt_mono (q := q) (a := i + 1) (k - (i + 1))
  rw [show i + 1 + (k - (i + 1)) = k by omega] at this; exact this
theorem x_sub {a : Nat} (h : 1 ≤ a) : nI a - 1 = nI (a - 1) := pk_sub (b := 1) h
theorem sub0 (x : Int32) : x - 0 = x := Int32.sub_zero x
def gpU (h : Nat → Int32) (i j m : Nat) : Nat → Int32 := fun k => if k < m ∧ i ≤ k ∧ k ≤ j then 1 else h k
theorem gpU_end {h : Nat → Int32} {i j : Nat} (hj : j < 200) : gpU h i j 200 = gvU h i j := by
  funext k; unfold gpU gvU
  by_cases q : i ≤ k ∧ k ≤ j
  · rw [if_pos q, if_pos ⟨by omega, q⟩]
  · rw [if_neg q, if_neg (fun z => q z.2)]
theorem gv_at {h : Nat → Int32} {i j m : Nat} (hm : m < 200) (hi : i < 200) (hj : j < 200) : isW (nI m) (nI i) (nI j) = decide (i ≤ m ∧ m ≤ j) := by
  unfold isW
  have e1 : nI m < nI i ↔ m < i := nI_ltI (by omega) (by omega)
  have e2 : nI j < nI m ↔ j < m := nI_ltI (by omega) (by omega)
  by_cases a : m < i <;> by_cases b : j < m <;> simp [e1, e2, a, b] <;> omega
theorem left_0 {p : Int32} {s : Nat} : p - nI s = 0 ↔ nI s = p := ⟨fun h => by
  have := congrArg (· + nI s) h
  simp only [Int32.sub_add_cancel, Int32.zero_add] at this
  exact this.symm, fun h => by rw [← h]; exact Int32.sub_self _⟩
theorem left_s {p : Int32} {s : Nat} : p - nI s - 1 = p - nI (s + 1) := by
  rw [← nI_1, Int32.sub_sub]
theorem rg_end {g : Nat → Int32} {f : Nat → Nat → Int32} {j : Nat} (h : hereI g f (nI (j + 1)) = false) (hj : j ≤ 199) : eoR g f (199 - j) j = j := by
  rcases Nat.lt_or_ge j 199 with q | q
  · rw [eoR_step q, if_neg (by rw [← hereI_nI (show j + 1 < 200 by omega), h]; decide)]
  · rw [show j = 199 by omega]; rfl
theorem here_200 {g : Nat → Int32} {f : Nat → Nat → Int32} {j : Nat} (h : hereI g f (nI (j + 1)) = true) (hj : j ≤ 199) : j + 1 < 200 := by
  rcases Nat.lt_or_ge (j + 1) 200 with q | q
  · exact q
  · exfalso
    have e9 : j + 1 = 200 := by omega
    rw [e9] at h
    simp only [hereI, isF, isI, Bool.and_eq_true, Bool.not_eq_true', decide_eq_false_iff_not] at h
    exact h.1.1.2 (Int32.le_refl _)
