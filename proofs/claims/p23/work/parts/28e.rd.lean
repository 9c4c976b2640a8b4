/-! a round of claims, as the law looks at it -/
def TR (f : Nat → Nat → Int32) (cd tt : Nat → Int32) : Prop := ∀ k, k < 60 → (tt k = 0 ∧ f 2 k = 0) ∨ (tt k = cd k + 1 ∧ ¬ tt k = 0 ∧ ¬ f 2 k = 0)
def ttR (g : Nat → Int32) (f : Nat → Nat → Int32) (tt : Nat → Int32) (i : Nat) : Nat → Int32 := fun k => if k < i ∧ rdB g f k = true ∧ clB f k = true then g 0 + 1 else tt k
theorem sub_1 (x y : Int32) : x - (y + 1) + 1 = x - y := by rw [← Int32.sub_sub, Int32.sub_add_cancel]
section Rd
variable {g : Nat → Int32} {f : Nat → Nat → Int32} {cd tt : Nat → Int32} {k : Nat}
theorem rd_t0 (hl : lateB g f k = false) : rdB g f k = false := by unfold rdB; rw [hl]; rfl
/-- never claimed: it is its turn -/
theorem rd_t1 (hl : lateB g f k = true) (h : f 2 k = 0) : rdB g f k = true := by unfold rdB dueB; rw [hl, decide_eq_true h]; rfl
theorem rd_t2 (hc : CD f cd) (hk : k < 200) (hl : lateB g f k = true) (h0 : ¬ f 2 k = 0) : rdB g f k = !decide (g 0 - cd k < g 6) := by
  have e := due_CD hc hk hl
  unfold rdB
  rw [hl, ← e]
  unfold dueB
  rw [decide_eq_false h0]; rfl
theorem late_f1 (h : lateB g f k = true) : f 1 k = 0 := by
  unfold lateB at h
  simp only [Bool.and_eq_true, decide_eq_true_eq] at h
  exact h.1.2
theorem tt_1 : rdB g f k = true ∧ clB f k = true → ttR g f tt (k + 1) = upd (ttR g f tt k) k (g 0 + 1) := by
  intro h
  funext j
  unfold ttR upd
  by_cases q : j = k
  · subst q; rw [if_pos ⟨by omega, h⟩, if_pos rfl]
  · rw [if_neg q]
    by_cases z : j < k
    · simp only [show j < k + 1 from by omega, z]
    · rw [if_neg (fun y => by omega)]; exact (if_neg (fun y => z y.1)).symm
theorem tt_0 : ¬ (rdB g f k = true ∧ clB f k = true) → ttR g f tt (k + 1) = upd (ttR g f tt k) k (ttR g f tt k k) := by
  intro h
  funext j
  unfold ttR upd
  by_cases q : j = k
  · subst q; rw [if_neg (fun y => h y.2), if_pos rfl, if_neg (fun y => by omega)]
  · rw [if_neg q]
    by_cases z : j < k
    · simp only [show j < k + 1 from by omega, z]
    · rw [if_neg (fun y => by omega)]; exact (if_neg (fun y => z y.1)).symm
theorem tt_00 : ttR g f tt 0 = tt := by
  funext j; unfold ttR; rw [if_neg (fun y => by omega)]
theorem rd_N {N : Nat} (hN : g 7 = nI N) (hN2 : N ≤ 200) : rdN g f 200 = rdN g f N := by
  unfold rdN
  exact cnt_200 hN2 (fun k h1 h2 => by rw [rdB_out (by rw [hN]; exact nI_le h1 (by omega))]; rfl)
/-- behind a round, no issue has its turn -/
theorem rd_no (hp : 0 < g 6) (hcl : ∀ k, k < 200 → 0 ≤ f 2 k ∧ f 2 k ≤ 3) (hk : k < 200) : rdB g (rdF g f 200) k = false := by
  cases z : rdB g (rdF g f 200) k with
  | false => rfl
  | true =>
    exfalso
    have h1 : lateB g (rdF g f 200) k = true ∧ dueB g (rdF g f 200) ((rdF g f 200) 3) k = true := by
      unfold rdB at z; rwa [Bool.and_eq_true] at z
    have hF1 : rd1 g f 200 k = 0 := late_f1 h1.1
    have hf1 : f 1 k = 0 := by
      unfold rd1 at hF1
      split at hF1
      · exact absurd hF1 (by decide)
      · exact hF1
    have hl : lateB g f k = true := by
      have e : lateB g (rdF g f 200) k = lateB g f k := by
        show (!decide (g 7 ≤ nI k) && decide (rd1 g f 200 k = 0) && !decide (g 0 - f 0 k ≤ g 5)) = (!decide (g 7 ≤ nI k) && decide (f 1 k = 0) && !decide (g 0 - f 0 k ≤ g 5))
        rw [hF1, hf1]
      rw [← e]; exact h1.1
    have hd : (decide (rd2 g f 200 k = 0) || !decide (g 0 - rd3 g f 200 k < g 6)) = true := h1.2
    by_cases hr : rdB g f k = true
    · have hc : clB f k = true := by
        cases y : clB f k with
        | true => rfl
        | false => unfold rd1 at hF1; rw [if_pos ⟨hk, hr, y⟩] at hF1; exact absurd hF1 (by decide)
      have e2 : rd2 g f 200 k = f 2 k + 1 := by unfold rd2; rw [if_pos ⟨hk, hr, hc⟩]
      have e3 : rd3 g f 200 k = g 0 := by unfold rd3; rw [if_pos ⟨hk, hr⟩]
      have hn : ¬ f 2 k + 1 = 0 := by
        obtain ⟨j, hj, e⟩ := nI_of (Int32.not_lt.mpr (hcl k hk).1)
        have h3 := (hcl k hk).2
        rw [e] at h3 ⊢
        have := (nI_leI (b := 3) hj (by decide)).mp h3
        rw [nI_1]; exact nI_ne0 (by omega) (by omega)
      rw [e2, e3, decide_eq_false hn, Int32.sub_self, decide_eq_true hp] at hd
      exact absurd hd (by decide)
    · have e2 : rd2 g f 200 k = f 2 k := by unfold rd2; rw [if_neg (fun y => hr y.2.1)]
      have e3 : rd3 g f 200 k = f 3 k := by unfold rd3; rw [if_neg (fun y => hr y.2)]
      rw [e2, e3] at hd
      refine hr ?_
      unfold rdB; rw [hl, Bool.true_and]; exact hd
theorem rd_twice {tc : Int32} (hp : 0 < g 6) (hcl : ∀ k, k < 200 → 0 ≤ f 2 k ∧ f 2 k ≤ 3) : rdN g (rdF g f 200) 200 = 0 ∧ (g, up2 (up2 (rdF g f 200) 1 (rd1 g (rdF g f 200) 200)) 2 (rd2 g (rdF g f 200) 200), rdc g (rdF g f 200) (rdc g f cd 200) 200, tc) = (g, rdF g f 200, rdc g f cd 200, tc) := by
  have hno : ∀ k, k < 200 → rdB g (rdF g f 200) k = false := fun k hk => rd_no hp hcl hk
  have e1 : rd1 g (rdF g f 200) 200 = (rdF g f 200) 1 := by
    funext k
    unfold rd1
    exact if_neg (fun y => by have := hno k y.1; rw [this] at y; exact absurd y.2.1 (by decide))
  have e2 : rd2 g (rdF g f 200) 200 = (rdF g f 200) 2 := by
    funext k
    unfold rd2
    exact if_neg (fun y => by have := hno k y.1; rw [this] at y; exact absurd y.2.1 (by decide))
  have e3 : rdc g (rdF g f 200) (rdc g f cd 200) 200 = rdc g f cd 200 := by
    funext k
    show (if k < 200 ∧ rdB g (rdF g f 200) k = true ∧ clB (rdF g f 200) k = true then g 0 else rdc g f cd 200 k) = _
    exact if_neg (fun y => by have := hno k y.1; rw [this] at y; exact absurd y.2.1 (by decide))
  refine ⟨?_, ?_⟩
  · unfold rdN
    have := cnt_cut (p := fun k => rdB g (rdF g f 200) k && clB (rdF g f 200) k) (N := 0) 200 (fun k h1 h2 => by show (rdB g (rdF g f 200) k && _) = false; rw [hno k (by omega)]; rfl)
    rw [Nat.zero_add] at this
    exact this
  · rw [e1, e2, e3]
    have e4 : up2 (up2 (rdF g f 200) 1 ((rdF g f 200) 1)) 2 ((rdF g f 200) 2) = rdF g f 200 := by
      funext q
      unfold up2
      split
      · rename_i h; subst h; rfl
      · split
        · rename_i h; subst h; rfl
        · rfl
    rw [e4]
theorem TR_rd {N : Nat} (hN : g 7 = nI N) (hN2 : N ≤ 200) (hD : ∃ D, g 0 = nI D ∧ D ≤ 7200) (hcl : ∀ k, k < 200 → 0 ≤ f 2 k ∧ f 2 k ≤ 3) (h : TR f cd tt) : TR (rdF g f 200) (rdc g f cd 200) (ttR g f tt (min N 60)) := by
  intro k hk
  show (ttR g f tt (min N 60) k = 0 ∧ rd2 g f 200 k = 0) ∨ (ttR g f tt (min N 60) k = rdc g f cd 200 k + 1 ∧ ¬ ttR g f tt (min N 60) k = 0 ∧ ¬ rd2 g f 200 k = 0)
  by_cases hr : rdB g f k = true ∧ clB f k = true
  · have hkN : k < N := by
      rcases Nat.lt_or_ge k N with q | q
      · exact q
      · rw [rdB_out (by rw [hN]; exact nI_le q (by omega))] at hr; exact absurd hr.1 (by decide)
    right
    have e1 : ttR g f tt (min N 60) k = g 0 + 1 := by unfold ttR; rw [if_pos ⟨by omega, hr⟩]
    have e2 : rdc g f cd 200 k = g 0 := by unfold rdc; rw [if_pos ⟨by omega, hr⟩]
    have e3 : rd2 g f 200 k = f 2 k + 1 := by unfold rd2; rw [if_pos ⟨by omega, hr⟩]
    rw [e1, e2, e3]
    refine ⟨rfl, ?_, ?_⟩
    · obtain ⟨D, d1, d2⟩ := hD
      rw [d1, nI_1]; exact nI_ne0 (by omega) (by omega)
    · obtain ⟨j, hj, e⟩ := nI_of (Int32.not_lt.mpr (hcl k (by omega)).1)
      have h3 := (hcl k (by omega)).2
      rw [e] at h3 ⊢
      have := (nI_leI (b := 3) hj (by decide)).mp h3
      rw [nI_1]; exact nI_ne0 (by omega) (by omega)
  · have e1 : ttR g f tt (min N 60) k = tt k := by unfold ttR; rw [if_neg (fun y => hr y.2)]
    have e2 : rdc g f cd 200 k = cd k := by unfold rdc; rw [if_neg (fun y => hr y.2)]
    have e3 : rd2 g f 200 k = f 2 k := by unfold rd2; rw [if_neg (fun y => hr y.2)]
    rw [e1, e2, e3]
    exact h k hk
end Rd
theorem up_2 {cl sa h1 h2 : Nat → Int32} {k j : Nat} (h : ∀ j, j < k → cl j = h1 j ∧ sa j = h2 j) (hj : j < k + 1) : upd cl k (h1 k) j = h1 j ∧ upd sa k (h2 k) j = h2 j := by
  by_cases q : j = k
  · subst q; exact ⟨pk_us, pk_us⟩
  · rw [pk_un q, pk_un q]; exact h j (by omega)
