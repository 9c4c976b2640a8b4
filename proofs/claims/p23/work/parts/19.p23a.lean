/-! small rows: where a call of the desk can't throw -/
theorem isF_lt {g : Nat → Int32} {k N : Nat} (hN : g 7 = nI N) (hk : k < N) (hN2 : N ≤ 200) : isF g (nI k) = true := by
  rw [isF_nI (by omega), hN, decide_eq_false (nI_ge hk (by omega))]; rfl
theorem okSP_3 {p0 p1 p3 : Int32} (h : okSP p0 p1 p3 = true) : isW p0 1 90 = true ∧ isW p1 1 20 = true ∧ isW p3 0 4094 = true := by
  simp only [okSP, Bool.and_eq_true] at h; exact h
theorem okSC_2 {p0 p1 : Int32} (h : okSC p0 p1 = true) : isW p0 0 100 = true ∧ isW p1 1 100 = true := by
  simp only [okSC, Bool.and_eq_true] at h; exact h
theorem isW_199 {i j : Nat} (hij : i ≤ j) (hj : j < 200) : isW (nI j) (nI i) 199 = true := by
  have h1 : ¬ nI j < nI i := fun q => by have := (nI_ltI (a := j) (b := i) (by omega) (by omega)).mp q; omega
  have h2 : ¬ (199 : Int32) < nI j := fun q => by have := (nI_ltI (a := 199) (b := j) (by decide) (by omega)).mp q; omega
  unfold isW; rw [decide_eq_false h1, decide_eq_false h2]; rfl
