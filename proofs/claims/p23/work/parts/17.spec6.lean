theorem isI_add {n : Nat} (h : n < 1000) : isI (nI n) = (true && !decide (200 ≤ nI n)) := by
  have h1 : ¬ nI n < 0 := nI_pos (by omega)
  unfold isI; rw [decide_eq_false h1]; rfl
theorem rg_k {g : Nat → Int32} {f : Nat → Nat → Int32} {p : Int32} (h : ¬ scan (rsB g f) p 0 200 0 = -1) : ∃ k, k < 200 ∧ scan (rsB g f) p 0 200 0 = nI k := by
  rcases scan_kth (q := rsB g f) (p := p) 200 0 rfl with ⟨k, -, q2, -, -, q5⟩ | ⟨-, q2⟩
  · exact ⟨k, q2, q5⟩
  · exact absurd q2 h
theorem gpU_end2 {h : Nat → Int32} {i j : Nat} : gpU h i j (j + 1) = gvU h i j := by
  funext k; unfold gpU gvU
  by_cases q : i ≤ k ∧ k ≤ j
  · rw [if_pos q, if_pos ⟨by omega, q⟩]
  · rw [if_neg q, if_neg (fun z => q z.2)]
theorem cnt_put {h : Nat → Int32} {m : Nat} : ∀ {n : Nat}, m < n → h m = 0 → cnt (thB (upd h m 1)) n = cnt (thB h) n + 1
  | 0, hm, _ => absurd hm (Nat.not_lt_zero _)
  | n + 1, hm, h0 => by
    by_cases q : m = n
    · subst q
      have e1 : thB (upd h m 1) m = true := by unfold thB; rw [pk_us]; rfl
      have e2 : thB h m = false := by unfold thB; rw [h0]; rfl
      rw [cnt_t e1, cnt_f e2]
      have key : ∀ n, n ≤ m → cnt (thB (upd h m 1)) n = cnt (thB h) n := by
        intro n
        induction n with
        | zero => intro _; rfl
        | succ n ih =>
          intro hn
          have e3 : thB (upd h m 1) n = thB h n := by unfold thB; rw [pk_un (by omega)]
          unfold cnt
          rw [ih (by omega), e3]
      rw [key m (Nat.le_refl _)]
    · have e3 : thB (upd h m 1) n = thB h n := by unfold thB; rw [pk_un (fun z => q z.symm)]
      unfold cnt
      rw [cnt_put (show m < n by omega) h0, e3]
      omega
theorem on_same {g : Nat → Int32} {f : Nat → Nat → Int32} {p : Int32} {i : Nat} (h01 : f 4 i = 0 ∨ f 4 i = 1) (h : bI (hereB g f i) = f 4 i) : onB g f p i = false := by
  unfold onB thB
  rw [← h]
  cases hereB g f i <;> simp [bI]
theorem on_ne {g : Nat → Int32} {f : Nat → Nat → Int32} {p : Int32} {i : Nat} (hp : p = 0 ∨ p = 1) (h : ¬ bI (hereB g f i) = p) : onB g f p i = false := by
  unfold onB
  rcases hp with q | q <;> subst q
  · have : hereB g f i = true := by cases z : hereB g f i with | true => rfl | false => rw [z] at h; exact absurd rfl h
    rw [this]; simp
  · have : hereB g f i = false := by cases z : hereB g f i with | false => rfl | true => rw [z] at h; exact absurd rfl h
    rw [this]; simp
theorem on_eq {g : Nat → Int32} {f : Nat → Nat → Int32} {p : Int32} {i : Nat} (h01 : f 4 i = 0 ∨ f 4 i = 1) (h1 : ¬ bI (hereB g f i) = f 4 i) (h : bI (hereB g f i) = p) : onB g f p i = true := by
  unfold onB thB
  rw [← h]
  rcases h01 with q | q <;> rw [q] at h1 ⊢ <;> cases z : hereB g f i <;> rw [z] at h1 <;> first | (exact absurd rfl h1) | simp [bI]
