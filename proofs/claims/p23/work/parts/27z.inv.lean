/-! what stays between two steps of the law, and that both sides answer the same -/
def LI (c : Nat) (x : SD) : Prop := Inv c x.1 x.2.1 ∧ CD x.2.1 x.2.2.1 ∧ x.2.2.2 = nI (cnt (thB (x.2.1 4)) 200)
theorem lkF_row {q : Nat} (hq : q ≠ 0) : ∀ (n : Nat) (g : Nat → Int32) (f : Nat → Nat → Int32), (lkF n (g, f)).2 q = f q
  | 0, _, _ => rfl
  | n + 1, g, f => by
    rw [lkF_step]
    split
    · rfl
    · rw [lkF_row hq n]; exact if_neg hq
theorem itF_row {q : Nat} (hq : q ≠ 0) : ∀ (n : Nat) (g : Nat → Int32) (f : Nat → Nat → Int32), (itF n (g, f)).2 q = f q
  | 0, _, _ => rfl
  | n + 1, g, f => by
    rw [itF_step, itF_row hq n]; exact if_neg hq
theorem lkS_row {q : Nat} (hq : q ≠ 0) (g : Nat → Int32) (f : Nat → Nat → Int32) : (lkS g f).2 q = f q := lkF_row hq _ _ _
theorem CD_mono {f f' : Nat → Nat → Int32} {cd : Nat → Int32} (h : CD f cd) (h1 : ∀ k, f' 1 k = 0 → f 1 k = 0) (h3 : f' 3 = f 3) : CD f' cd := fun k hk h0 => by rw [h3]; exact h k hk (h1 k h0)
theorem LI_lk {c : Nat} {g : Nat → Int32} {f : Nat → Nat → Int32} {cd : Nat → Int32} {tc : Int32} (hc : c ≤ 512) (h : LI c (g, f, cd, tc)) : LI c ((lkS g f).1, (lkS g f).2, cd, tc) :=
  ⟨lkS_inv hc h.1, CD_mono h.2.1 (fun k e => by
    have e1 : (lkS g f).2 1 k = 0 := e
    rw [lkS_row (by decide)] at e1; exact e1) (lkS_row (by decide) g f), by
    show tc = nI (cnt (thB ((lkS g f).2 4)) 200)
    rw [lkS_row (by decide)]; exact h.2.2⟩
theorem LI_mono {c d : Nat} {x : SD} (h : LI c x) (hcd : c ≤ d) : LI d x := ⟨inv_mono h.1 hcd, h.2⟩
theorem thA_0 {g : Nat → Int32} {p : Int32} (h : thA g p = 0) : isW p 1 400 = true ∧ ¬ 7200 < g 0 + p := by
  unfold thA at h
  by_cases a : isW p 1 400 = false
  · rw [if_pos a] at h; exact absurd h (by decide)
  · rw [if_neg a] at h
    by_cases b : 7200 < g 0 + p
    · rw [if_pos b] at h; exact absurd h (by decide)
    · exact ⟨by simpa using a, b⟩
theorem thC_0 {g : Nat → Int32} {f : Nat → Nat → Int32} {p0 p1 : Int32} (h : thC g f p0 p1 = 0) : p0.toNatClampNeg + p1.toNatClampNeg < 200 := by
  unfold thC at h
  by_cases a : isI p0 = false
  · rw [if_pos a] at h; exact absurd h (by decide)
  · rw [if_neg a] at h
    by_cases b : ciG p0 p1 = false
    · rw [if_pos b] at h; exact absurd h (by decide)
    · obtain ⟨i, hi, e0, c0⟩ := isI_k (p := p0) (by simpa using a)
      obtain ⟨j, -, e1, c1, hij⟩ := ciG_k e0 hi (by simpa using b)
      rw [c0, c1]; exact hij
theorem ciS_row {q : Nat} (h0 : q ≠ 0) (h1 : q ≠ 1) (g : Nat → Int32) (f : Nat → Nat → Int32) (i j : Nat) : (ciS g f i j).2 q = f q := by
  unfold ciS
  rw [lkS_row h0]
  show (if q = 1 then _ else (ciM g f i j).2 q) = f q
  rw [if_neg h1]
  exact itF_row h0 _ _ _
theorem ciS_row1 {g : Nat → Int32} {f : Nat → Nat → Int32} {i j k : Nat} (h : (ciS g f i j).2 1 k = 0) : f 1 k = 0 := by
  unfold ciS at h
  rw [lkS_row (by decide)] at h
  have h2 : tkU ((ciM g f i j).2 1) i (i + j + 1) k = 0 := h
  unfold tkU at h2
  have e : (ciM g f i j).2 1 = f 1 := itF_row (by decide) _ _ _
  split at h2
  · split at h2 <;> exact absurd h2 (by decide)
  · rw [e] at h2; exact h2
theorem LI_ci {c : Nat} {g : Nat → Int32} {f : Nat → Nat → Int32} {cd : Nat → Int32} {tc : Int32} {i j : Nat} (hc : c < 512) (h : LI c (g, f, cd, tc)) (hij : i + j < 200) : LI (c + 1) ((ciS g f i j).1, (ciS g f i j).2, cd, tc) := by
  obtain ⟨h1, h2, h3⟩ := h
  have h1 : Inv c g f := h1
  have h2 : CD f cd := h2
  have h3 : tc = nI (cnt (thB (f 4)) 200) := h3
  have q1 := ciS_inv hc h1 hij
  have q3 := ciS_row (q := 3) (by decide) (by decide) g f i j
  have q4 := ciS_row (q := 4) (by decide) (by decide) g f i j
  have q5 : ∀ k, (ciS g f i j).2 1 k = 0 → f 1 k = 0 := fun k e => ciS_row1 e
  generalize ciS g f i j = z at q1 q3 q4 q5 ⊢
  exact ⟨q1, CD_mono h2 q5 q3, by
    show tc = nI (cnt (thB (z.2 4)) 200)
    rw [q4]; exact h3⟩
theorem LI_sk {c : Nat} {g : Nat → Int32} {f : Nat → Nat → Int32} {cd : Nat → Int32} {tc : Int32} {i : Nat} (h : LI c (g, f, cd, tc)) : LI c (g, up2 f 1 (upd (f 1) i 3), cd, tc) :=
  ⟨inv_row h.1 rfl rfl, CD_mono h.2.1 (fun k e => by
    have e1 : (if k = i then (3 : Int32) else f 1 k) = 0 := e
    split at e1
    · exact absurd e1 (by decide)
    · exact e1) rfl, h.2.2⟩
theorem LI_rd {c : Nat} {g : Nat → Int32} {f : Nat → Nat → Int32} {cd : Nat → Int32} {tc : Int32} (h : LI c (g, f, cd, tc)) : LI c (g, rdF g f 200, rdc g f cd 200, tc) :=
  ⟨inv_row h.1 rfl rfl, CD_rd h.2.1, h.2.2⟩
theorem LI_gv {c : Nat} {g : Nat → Int32} {f : Nat → Nat → Int32} {cd : Nat → Int32} {tc : Int32} {i j : Nat} (h : LI c (g, f, cd, tc)) : LI c (g, up2 f 4 (gvU (f 4) i j), cd, nI (cnt (thB (gvU (f 4) i j)) 200)) := by
  refine ⟨?_, CD_mono h.2.1 (fun k e => e) rfl, rfl⟩
  obtain ⟨g1, g2, g3, g4, g5, g6, g7, g8, g9, g10⟩ := h.1
  exact ⟨g1, g2, g3, g4, g5, g6, g7, g8, g9, fun k => by
    show (if i ≤ k ∧ k ≤ j then (1 : Int32) else f 4 k) = 0 ∨ (if i ≤ k ∧ k ≤ j then (1 : Int32) else f 4 k) = 1
    split
    · exact Or.inr rfl
    · exact g10 k⟩
theorem LI_0 : LI 0 (g0, f0, (fun _ => 0), 0) :=
  ⟨⟨⟨1, rfl, by omega, by omega, fun i _ => ⟨0, nI_0.symm, by omega⟩⟩, ⟨30, rfl, by omega, by omega⟩, ⟨12, rfl, by omega, by omega⟩, ⟨0, nI_0.symm, by omega⟩, ⟨0, nI_0.symm, by omega⟩, by decide +kernel, ⟨0, by decide +kernel, by omega, fun _ => rfl⟩, by decide +kernel, Or.inr rfl, fun _ => Or.inl rfl⟩, fun _ _ _ => rfl, by decide +kernel⟩
theorem isW_n {k i e : Nat} (hk : k < 200) (hi : i < 200) (he : e < 200) : isW (nI k) (nI i) (nI e) = true ↔ i ≤ k ∧ k ≤ e := by
  unfold isW
  rw [Bool.and_eq_true, Bool.not_eq_true', Bool.not_eq_true', decide_eq_false_iff_not, decide_eq_false_iff_not, nI_ltI (by omega) (by omega), nI_ltI (by omega) (by omega)]
  omega
theorem anyR_iff {q : Nat → Bool} : ∀ (n i : Nat), anyR q i n = true ↔ ∃ k, i ≤ k ∧ k < i + n ∧ q k = true
  | 0, i => ⟨fun h => absurd (show false = true from h) (by decide), fun ⟨k, h1, h2, _⟩ => by omega⟩
  | n + 1, i => by
    show (q i || anyR q (i + 1) n) = true ↔ _
    rw [Bool.or_eq_true, anyR_iff n (i + 1)]
    constructor
    · rintro (h | ⟨k, h1, h2, h3⟩)
      · exact ⟨i, by omega, by omega, h⟩
      · exact ⟨k, by omega, by omega, h3⟩
    · rintro ⟨k, h1, h2, h3⟩
      rcases Nat.eq_or_lt_of_le h1 with e | e
      · left; rw [e]; exact h3
      · right; exact ⟨k, e, by omega, h3⟩
section Held
variable {g : Nat → Int32} {f : Nat → Nat → Int32}
theorem eoR_le : ∀ n i, i ≤ eoR g f n i ∧ eoR g f n i ≤ i + n
  | 0, i => ⟨Nat.le_refl i, Nat.le_refl i⟩
  | n + 1, i => by
    show i ≤ (if hereB g f (i + 1) = true then eoR g f n (i + 1) else i) ∧ (if hereB g f (i + 1) = true then eoR g f n (i + 1) else i) ≤ i + (n + 1)
    have h := eoR_le n (i + 1)
    split <;> omega
theorem eoR_in : ∀ n i k, i < k → k ≤ eoR g f n i → hereB g f k = true
  | 0, i, k, h1, h2 => absurd (show k ≤ i from h2) (by omega)
  | n + 1, i, k, h1, h2 => by
    have h3 : k ≤ (if hereB g f (i + 1) = true then eoR g f n (i + 1) else i) := h2
    split at h3
    · rename_i hh
      rcases Nat.eq_or_lt_of_le (show i + 1 ≤ k from h1) with e | e
      · rw [← e]; exact hh
      · exact eoR_in n (i + 1) k e h3
    · omega
theorem eoR_ge : ∀ n i k, i ≤ k → k ≤ i + n → (∀ j, i < j → j ≤ k → hereB g f j = true) → k ≤ eoR g f n i
  | 0, i, k, _, h2, _ => show k ≤ i from h2
  | n + 1, i, k, h1, h2, h => by
    show k ≤ (if hereB g f (i + 1) = true then eoR g f n (i + 1) else i)
    rcases Nat.eq_or_lt_of_le h1 with e | e
    · have := (eoR_le (g := g) (f := f) n (i + 1)).1
      split <;> omega
    · rw [if_pos (h (i + 1) (by omega) (by omega))]
      exact eoR_ge n (i + 1) k e (by omega) (fun j h1 h2 => h j (by omega) h2)
theorem rs_of : ∀ k, k < 200 → hereB g f k = true → ∃ i, i ≤ k ∧ rsB g f i = true ∧ ∀ j, i < j → j ≤ k → hereB g f j = true
  | 0, _, h => ⟨0, Nat.le_refl _, by
    have e : isI (nI 0 - 1) = false := by decide +kernel
    have e2 : hereI g f (nI 0 - 1) = false := by unfold hereI isF; rw [e]; rfl
    unfold rsB; rw [h, e2]; rfl, fun j h1 h2 => by omega⟩
  | k + 1, hk, h => by
    by_cases q : hereB g f k = true
    · obtain ⟨i, a, b, c⟩ := rs_of k (by omega) q
      exact ⟨i, by omega, b, fun j h1 h2 => by
        rcases Nat.eq_or_lt_of_le h2 with e | e
        · rw [e]; exact h
        · exact c j h1 (by omega)⟩
    · refine ⟨k + 1, Nat.le_refl _, ?_, fun j h1 h2 => by omega⟩
      have e : hereI g f (nI (k + 1) - 1) = false := by rw [nI_pred, hereI_nI (by omega)]; exact Bool.eq_false_iff.mpr q
      unfold rsB; rw [h, e]; rfl
theorem held_eq (p : Int32) : anyR (hdB g f p) 0 200 = hereI g f p := by
  apply Bool.eq_iff_iff.mpr
  rw [anyR_iff]
  constructor
  · rintro ⟨i, -, hi, h⟩
    have hb := eoR_le (g := g) (f := f) (199 - i) i
    simp only [hdB, Bool.and_eq_true] at h
    obtain ⟨h1, h2⟩ := h
    simp only [isW, Bool.and_eq_true, Bool.not_eq_true', decide_eq_false_iff_not] at h2
    obtain ⟨h2, h3⟩ := h2
    have e1 : (nI i).toInt = i := nI_toInt (by omega)
    have e2 : (nI (eoR g f (199 - i) i)).toInt = (eoR g f (199 - i) i : Nat) := nI_toInt (by omega)
    rw [Int32.lt_iff_toInt_lt, e1] at h2
    rw [Int32.lt_iff_toInt_lt, e2] at h3
    obtain ⟨k, hk, rfl⟩ := nI_of (x := p) (by rw [Int32.lt_iff_toInt_lt, Int32.toInt_zero]; omega)
    have e3 : (nI k).toInt = k := nI_toInt hk
    rw [e3] at h2 h3
    rw [hereI_nI (by omega)]
    rcases Nat.eq_or_lt_of_le (show i ≤ k by omega) with e | e
    · rw [← e]; exact (rs_here h1).1
    · exact eoR_in (199 - i) i k e (by omega)
  · intro h
    obtain ⟨k, hk, rfl⟩ := isI_of (i := p) (by simp only [hereI, isF, Bool.and_eq_true] at h; exact h.1.1)
    rw [hereI_nI hk] at h
    obtain ⟨i, h1, h2, h3⟩ := rs_of k hk h
    refine ⟨i, by omega, by omega, ?_⟩
    have h4 := eoR_ge (199 - i) i k h1 (by omega) h3
    have h5 := eoR_le (g := g) (f := f) (199 - i) i
    simp only [hdB, Bool.and_eq_true]
    exact ⟨h2, (isW_n hk (by omega) (by omega)).mpr ⟨h1, h4⟩⟩
end Held
