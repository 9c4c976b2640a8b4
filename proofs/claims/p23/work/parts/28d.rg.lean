/-! ranges, told one by one -/
section Rg
variable {g : Nat → Int32} {f : Nat → Nat → Int32}
theorem cnt_full {p : Nat → Bool} {N : Nat} : ∀ d, (∀ k, N ≤ k → k < N + d → p k = true) → cnt p (N + d) = cnt p N + d
  | 0, _ => rfl
  | d + 1, h => by
    rw [← Nat.add_assoc, cnt_t (h (N + d) (by omega) (by omega)), cnt_full d (fun k h1 h2 => h k h1 (by omega))]
    omega
theorem cnt_uniq {q : Nat → Bool} {i j : Nat} (hi : q i = true) (hj : q j = true) (h : cnt q i = cnt q j) : i = j := by
  rcases Nat.lt_trichotomy i j with z | z | z
  · have := rs_step (q := q) z; rw [cnt_t hi] at this; omega
  · exact z
  · have := rs_step (q := q) z; rw [cnt_t hj] at this; omega
theorem scan_at {q : Nat → Bool} {k : Nat} (hk : k < 200) (hq : q k = true) : scan q (nI (cnt q k)) 0 200 0 = nI k := by
  have hc := cnt_le q k
  rcases scan_kth (q := q) (p := nI (cnt q k)) 200 0 rfl with ⟨k', -, h2, h3, h4, h5⟩ | ⟨h1, -⟩
  · have hc' := cnt_le q k'
    have e := (nI_eq (by omega) (by omega)).mp h4
    have e2 := cnt_uniq h3 hq e
    rw [e2] at h5; exact h5
  · exact absurd rfl (h1 k (Nat.zero_le _) hk hq)
theorem scan_none (q : Nat → Bool) : scan q (nI (cnt q 200)) 0 200 0 = -1 := by
  have hc := cnt_le q 200
  rcases scan_kth (q := q) (p := nI (cnt q 200)) 200 0 rfl with ⟨k', -, h2, h3, h4, -⟩ | ⟨-, h2⟩
  · have hc' := cnt_le q k'
    have e := (nI_eq (by omega) (by omega)).mp h4
    have := rs_step (q := q) h2
    rw [cnt_t h3] at this
    omega
  · exact h2
theorem rs_1 {k : Nat} (hk : k + 1 < 200) : rsB g f (k + 1) = (hereB g f (k + 1) && !hereB g f k) := by unfold rsB; rw [nI_pred, hereI_nI (by omega)]
theorem rs_0 : rsB g f 0 = hereB g f 0 := by
  have e : isI (nI 0 - 1) = false := by decide +kernel
  have e2 : hereI g f (nI 0 - 1) = false := by unfold hereI isF; rw [e]; rfl
  unfold rsB; rw [e2]; simp
theorem eoR_out : ∀ n i, i + n = 199 → eoR g f n i < 199 → hereB g f (eoR g f n i + 1) = false
  | 0, i, h, h2 => absurd (show i < 199 from h2) (by omega)
  | n + 1, i, h, h2 => by
    have h3 : (if hereB g f (i + 1) = true then eoR g f n (i + 1) else i) < 199 := h2
    show hereB g f ((if hereB g f (i + 1) = true then eoR g f n (i + 1) else i) + 1) = false
    by_cases z : hereB g f (i + 1) = true
    · rw [if_pos z] at h3 ⊢
      exact eoR_out n (i + 1) (by omega) h3
    · rw [if_neg z]; exact Bool.eq_false_iff.mpr z
/-- where no range begins, and none goes on, nothing is held -/
theorem no_here {L m : Nat} (hL : L = 0 ∨ hereB g f L = false) (hm : m ≤ 200) (hc : cnt (rsB g f) m ≤ cnt (rsB g f) L) : ∀ d, L + d < m → hereB g f (L + d) = false
  | 0, h => by
    rcases hL with z | z
    · subst z
      cases q : hereB g f 0 with
      | false => rfl
      | true =>
        have h1 := rs_step (q := rsB g f) (show 0 < m by omega)
        rw [cnt_t (rs_0.trans q)] at h1
        omega
    · exact z
  | d + 1, h => by
    have h0 := no_here hL hm hc d (by omega)
    cases q : hereB g f (L + (d + 1)) with
    | false => rfl
    | true =>
      have hr : rsB g f (L + d + 1) = true := by rw [rs_1 (by omega), h0, show L + d + 1 = L + (d + 1) by omega, q]; rfl
      have h1 := rs_step (q := rsB g f) (show L + d + 1 < m by omega)
      rw [cnt_t hr] at h1
      have h2 := cnt_mono (q := rsB g f) (a := L) (d + 1)
      rw [show L + (d + 1) = L + d + 1 by omega] at h2
      omega
theorem rg_last {L : Nat} (hL : L = 0 ∨ hereB g f L = false) (hl : L ≤ 200) (hc : cnt (rsB g f) L = cnt (rsB g f) 200) : cnt (hereB g f) 200 = cnt (hereB g f) L := by
  have h := cnt_cut (p := hereB g f) (N := L) (200 - L) (fun k h1 h2 => by
    have := no_here hL (Nat.le_refl 200) (by omega) (k - L) (by omega)
    rwa [show L + (k - L) = k by omega] at this)
  rwa [show L + (200 - L) = 200 by omega] at h
theorem rg_next {L k N : Nat} (hN : g 7 = nI N) (hN2 : N ≤ 200) (hL : L = 0 ∨ hereB g f L = false) (hl : L ≤ 200) (hc : cnt (rsB g f) L = k) (hk : k < cnt (rsB g f) 200) :
    ∃ p e, L ≤ p ∧ (L = 0 ∨ L < p) ∧ p ≤ e ∧ e < N ∧ scan (rsB g f) (nI k) 0 200 0 = nI p ∧ eoR g f (199 - p) p = e ∧ cnt (hereB g f) (e + 1) = cnt (hereB g f) L + (e - p + 1) ∧ cnt (rsB g f) (e + 1) = k + 1 ∧ hereB g f (e + 1) = false := by
  obtain ⟨p, hp, hr, hcp⟩ := cnt_kth (q := rsB g f) (j := k) 200 hk
  have hLp : L ≤ p := by
    rcases Nat.lt_or_ge p L with z | z
    · have := rs_step (q := rsB g f) z; rw [cnt_t hr] at this; omega
    · exact z
  obtain ⟨hh, -⟩ := rs_here hr
  have hno := no_here (m := p) hL (by omega) (by omega)
  have hne : L = 0 ∨ L < p := by
    rcases hL with z | z
    · exact Or.inl z
    · right
      rcases Nat.eq_or_lt_of_le hLp with q | q
      · rw [q, hh] at z; exact absurd z (by decide)
      · exact q
  obtain ⟨b1, b2⟩ := eoR_le (g := g) (f := f) (199 - p) p
  generalize he : eoR g f (199 - p) p = e at b1 b2
  have hin : ∀ j, p ≤ j → j ≤ e → hereB g f j = true := fun j h1 h2 => by
    rcases Nat.eq_or_lt_of_le h1 with q | q
    · rw [← q]; exact hh
    · exact eoR_in (199 - p) p j q (by rw [he]; exact h2)
  have hlt : ∀ j, hereB g f j = true → j < 200 → j < N := fun j h h2 => by
    rcases Nat.lt_or_ge j N with q | q
    · exact q
    · rw [hereB_out (by rw [hN]; exact nI_le q (by omega))] at h; exact absurd h (by decide)
  have hs : scan (rsB g f) (nI k) 0 200 0 = nI p := by rw [← hcp]; exact scan_at hp hr
  refine ⟨p, e, hLp, hne, b1, hlt e (hin e b1 (Nat.le_refl _)) (by omega), hs, he, ?_, ?_, ?_⟩
  · have h1 := cnt_full (p := hereB g f) (N := p) (e + 1 - p) (fun j h1 h2 => hin j h1 (by omega))
    rw [show p + (e + 1 - p) = e + 1 by omega] at h1
    have h2 := cnt_cut (p := hereB g f) (N := L) (p - L) (fun j h1 h2 => by
      have := hno (j - L) (by omega)
      rwa [show L + (j - L) = j by omega] at this)
    rw [show L + (p - L) = p by omega] at h2
    omega
  · have h1 := cnt_cut (p := rsB g f) (N := p + 1) (e - p) (fun j h1 h2 => by
      have e1 : j = j - 1 + 1 := by omega
      rw [e1, rs_1 (by omega), hin (j - 1) (by omega) (by omega)]; simp)
    rw [show p + 1 + (e - p) = e + 1 by omega, cnt_t hr] at h1
    omega
  · by_cases q : e < 199
    · have := eoR_out (g := g) (f := f) (199 - p) p (by omega) (by rw [he]; exact q)
      rwa [he] at this
    · have e9 : e + 1 = 200 := by omega
      rw [e9]
      exact hereB_out (by rw [hN]; exact nI_le (b := 200) hN2 (by decide))
theorem on_1 {k : Nat} : onB g f 1 k = (hereB g f k && !thB (f 4) k) := by unfold onB; rw [if_neg (by decide)]
theorem on_0 {k : Nat} : onB g f 0 k = (thB (f 4) k && !hereB g f k) := by unfold onB; rw [if_pos rfl]
theorem held_m1 : anyR (hdB g f (-1)) 0 200 = false := by
  rw [held_eq]
  have e : isI (-1) = false := by decide
  unfold hereI isF; rw [e]; rfl
theorem held_200 : anyR (hdB g f 200) 0 200 = false := by
  rw [held_eq]
  have e : isI 200 = false := by decide
  unfold hereI isF; rw [e]; rfl
end Rg
theorem rg_val (p e : Nat) : (1000 : Int32) * nI p + nI e = nI (1000 * p + e) := by
  have h : (1000 : Int32) * nI p = nI (1000 * p) := (Int32.ofNat_mul 1000 p).symm
  rw [h, nI_add]
theorem rg_div {p e : Nat} (h : p < 1000 ∧ e < 1000) : nI (1000 * p + e) / 1000 = nI p := by
  have h1 := pk_div (a := 1000 * p + e) (d := 1000) (by omega) (by decide) (by decide)
  rw [show (1000 * p + e) / 1000 = p by omega] at h1
  exact h1
theorem rg_rem {p e : Nat} (h : p < 1000 ∧ e < 1000) : nI (1000 * p + e) - nI (1000 * p + e) / 1000 * 1000 = nI e := by
  have h1 := pk_rem (a := 1000 * p + e) (d := 1000) (by omega) (by decide) (by decide)
  rw [show (1000 * p + e) % 1000 = e by omega] at h1
  exact h1
theorem rg_gt {y : Int32} {L p : Nat} (hy : y = -2 ∧ L = 0 ∨ y + 1 = nI L ∧ 1 ≤ L) (h1 : L ≤ p) (h2 : L = 0 ∨ L < p) (hp : p < 200) : ¬ nI p ≤ y + 1 := by
  rcases hy with ⟨h, -⟩ | ⟨h, h3⟩
  · rw [h]
    intro q
    rw [Int32.le_iff_toInt_le, nI_toInt (by omega), show ((-2 : Int32) + 1).toInt = -1 from by decide] at q
    omega
  · rw [h]
    exact nI_ge (by omega) (by omega)
theorem rg_sum {c e p : Nat} (h : p ≤ e) : nI c + (nI e - nI p + 1) = nI (c + (e - p + 1)) := by
  rw [pk_sub h, nI_1, nI_add]
