/-! what is foretold: one by one, as the law looks at it -/
theorem bar_co {g g' : Nat → Int32} (h4 : g' 4 = g 4) (d : Int32) : bar g' d = bar g d := by unfold bar barV; rw [h4]
theorem nxF_co {g g' : Nat → Int32} (h4 : g' 4 = g 4) : ∀ k n, nxF g' k n = nxF g k n
  | 0, _ => rfl
  | k + 1, n => by unfold nxF; rw [bar_co h4, nxF_co h4 k (n + 1)]
theorem nxL_co {g g' : Nat → Int32} (h1 : g' 1 = g 1) (h4 : g' 4 = g 4) (b s : Int32) : nxL g' b s = nxL g b s := by
  unfold nxL nx
  rw [nxF_co h4]
  have e : d0I (upd g' 8 s) b = d0I (upd g 8 s) b := by
    unfold d0I
    rw [show (upd g' 8 s) 1 = g' 1 from rfl, show (upd g 8 s) 1 = g 1 from rfl, h1]; rfl
  rw [e]
theorem it_F : ∀ (n : Nat) (g : Nat → Int32) (f : Nat → Nat → Int32) (N : Nat), g 7 = nI N → 1 ≤ N → N + n ≤ 200 →
    (itF n (g, f)).1 7 = nI (N + n) ∧ (∀ q, q ≠ 7 → q ≠ 8 → (itF n (g, f)).1 q = g q) ∧ (itF n (g, f)).1 8 = (if n = 0 then g 8 else 0) ∧ (∀ k, k < N → (itF n (g, f)).2 0 k = f 0 k) ∧ (∀ k, N ≤ k → k < N + n → (itF n (g, f)).2 0 k = nxL g ((itF n (g, f)).2 0 (k - 1)) (if k = N then g 8 else 0))
  | 0, g, f, N, hN, h1, h2 => ⟨hN, fun _ _ _ => rfl, rfl, fun _ _ => rfl, fun k h3 h4 => by omega⟩
  | n + 1, g, f, N, hN, h1, h2 => by
    have hc : (g 7).toNatClampNeg = N := by rw [hN]; exact nI_clamp (by omega)
    have e7 : foreG g 7 = nI (N + 1) := by show g 7 + 1 = _; rw [hN]; exact nI_1 _
    obtain ⟨a1, a2, a3, a4, a5⟩ := it_F n (foreG g) (foreF g f) (N + 1) e7 (by omega) (by omega)
    rw [itF_step]
    have er : ∀ k, foreF g f 0 k = upd (f 0) N (nd g f) k := fun k => by show upd (f 0) (g 7).toNatClampNeg (nd g f) k = _; rw [hc]
    refine ⟨by rw [a1]; congr 1; omega, fun q h3 h4 => ?_, ?_, fun k h3 => ?_, fun k h3 h4 => ?_⟩
    · rw [a2 q h3 h4]; show upd (upd g 8 0) 7 (g 7 + 1) q = g q; rw [pk_un h3, pk_un h4]
    · have e8 : foreG g 8 = 0 := rfl
      rw [a3, e8, if_neg (show ¬ n + 1 = 0 by omega)]; split <;> rfl
    · rw [a4 k (by omega), er, pk_un (by omega)]
    · by_cases z : k = N
      · subst z
        rw [if_pos rfl, a4 k (by omega), er, pk_us, a4 (k - 1) (by omega), er, pk_un (by omega), nd_L, hc]
      · have e8 : foreG g 8 = 0 := rfl
        have e9 : (if k = N + 1 then foreG g 8 else 0) = (0 : Int32) := by rw [e8]; split <;> rfl
        rw [if_neg z, a5 k (by omega) (by omega), nxL_co (g := g) (g' := foreG g) rfl rfl, e9]
theorem lk_it : ∀ (n : Nat) (g : Nat → Int32) (f : Nat → Nat → Int32) (N : Nat), g 7 = nI N → 1 ≤ N → N + n ≤ 200 →
    ∃ m, m ≤ n ∧ lkF n (g, f) = itF m (g, f) ∧ (m = n ∨ g 0 < nd (itF m (g, f)).1 (itF m (g, f)).2) ∧ (∀ k, N ≤ k → k < N + m → (itF m (g, f)).2 0 k ≤ g 0)
  | 0, g, f, N, hN, h1, h2 => ⟨0, Nat.le_refl _, rfl, Or.inl rfl, fun k h3 h4 => by omega⟩
  | n + 1, g, f, N, hN, h1, h2 => by
    rw [lkF_step]
    by_cases z : g 0 < nd g f
    · exact ⟨0, Nat.zero_le _, if_pos z, Or.inr z, fun k h3 h4 => by omega⟩
    · have hc : (g 7).toNatClampNeg = N := by rw [hN]; exact nI_clamp (by omega)
      have e7 : foreG g 7 = nI (N + 1) := by show g 7 + 1 = _; rw [hN]; exact nI_1 _
      obtain ⟨m, m1, m2, m3, m4⟩ := lk_it n (foreG g) (foreF g f) (N + 1) e7 (by omega) (by omega)
      refine ⟨m + 1, by omega, by rw [if_neg z, m2]; rfl, ?_, fun k h3 h4 => ?_⟩
      · rcases m3 with h | h
        · exact Or.inl (by omega)
        · exact Or.inr h
      · rw [itF_step]
        by_cases y : k = N
        · subst y
          obtain ⟨-, -, -, a4, -⟩ := it_F m (foreG g) (foreF g f) (k + 1) e7 (by omega) (by omega)
          rw [a4 k (by omega)]
          show upd (f 0) (g 7).toNatClampNeg (nd g f) k ≤ g 0
          rw [hc, pk_us]; exact Int32.not_lt.mp z
        · exact m4 k (by omega) (by omega)
/-- a day that passes, or another pattern -/
theorem AF_lk {c : Nat} {g : Nat → Int32} {f : Nat → Nat → Int32} {N : Nat} (hc : c ≤ 512) (hI : Inv c g f) (hN : g 7 = nI N) (hNb : N ≤ 200) (hz : ∀ k, N ≤ k → f 2 k = 0) : AF (lkS g f).1 (lkS g f).2 N (g 8) ∧ (∀ q, q ≠ 7 → q ≠ 8 → (lkS g f).1 q = g q) ∧ ∃ m, (lkS g f).1 7 = nI (N + m) ∧ N + m ≤ 200 ∧ (∀ k, k < N → (lkS g f).2 0 k = f 0 k) := by
  obtain ⟨N', e, h1, h2, h3, h4⟩ := inv_N hI
  have eN : N' = N := (nI_eq (by omega) (by omega)).mp (e.symm.trans hN)
  subst eN
  have hIk := lkS_inv hc hI
  obtain ⟨m, m1, m2, m3, m4⟩ := lk_it (200 - N') g f N' hN h1 (by omega)
  obtain ⟨a1, a2, a3, a4, a5⟩ := it_F m g f N' hN h1 (by omega)
  have eS : lkS g f = itF m (g, f) := by unfold lkS; rw [h3]; exact m2
  have hr2 : (lkS g f).2 2 = f 2 := lkS_row (by decide) g f
  rw [eS] at hIk hr2 ⊢
  refine ⟨⟨N' + m, a1, h1, by omega, by omega, inv_PT hIk, inv_SH hI hc, inv_SH hIk hc, fun k hk => inv_DY hIk a1 (by omega) hk, fun k h5 h6 => ⟨?_, ?_, ?_⟩, ?_⟩, a2, m, a1, by omega, a4⟩
  · rw [nxL_co (a2 1 (by decide) (by decide)) (a2 4 (by decide) (by decide))]; exact a5 k h5 h6
  · rw [a2 0 (by decide) (by decide)]; exact m4 k h5 h6
  · rw [hr2]; exact hz k h5
  · rcases m3 with h | h
    · exact Or.inl (by omega)
    · right; rw [a2 0 (by decide) (by decide)]; exact h
def shB (r t : Int32) : Bool := !decide (r < 3) && okS t
theorem cnt_8 {g : Nat → Int32} {t r : Int32} {i : Nat} : cntG g t r i 8 = g 8 + (if shB r t = true then t else 0) ∧ cntG g t r i 9 = nI i ∧ cntG g t r i 10 = t ∧ cntG g t r i 11 = (if shB r t = true then 0 else r) ∧ (∀ q, q < 8 → cntG g t r i q = g q) := by
  unfold cntG
  by_cases h : r < 3 ∨ okS t = false
  · have hs : shB r t = false := by
      unfold shB
      rcases h with h | h
      · rw [decide_eq_true h]; rfl
      · rw [h, Bool.and_false]
    rw [if_pos h, hs]
    refine ⟨?_, rfl, rfl, rfl, fun q hq => ?_⟩
    · rw [if_neg (by decide)]; exact (Int32.add_zero _).symm
    · rw [pk_un (by omega), pk_un (by omega), pk_un (by omega)]
  · have hs : shB r t = true := by
      unfold shB
      rw [decide_eq_false (fun z => h (Or.inl z))]
      cases y : okS t with
      | true => rfl
      | false => exact absurd (Or.inr y) h
    rw [if_neg h, hs]
    refine ⟨?_, rfl, rfl, rfl, fun q hq => ?_⟩
    · rw [if_pos rfl]; rfl
    · rw [pk_un (by omega), pk_un (by omega), pk_un (by omega), pk_un (by omega)]
theorem foM_co {g : Nat → Int32} {f f' : Nat → Nat → Int32} {i : Nat} (h : ∀ k, k < i → f' 1 k = f 1 k) : foM g f' i = foM g f i := by
  unfold foM
  congr 2
  generalize (g 9 + 1).toNatClampNeg = B
  by_cases q : B ≤ i
  · have key : ∀ n B, B + n ≤ i → allR (foB f') B n = allR (foB f) B n := by
      intro n
      induction n with
      | zero => intro B _; rfl
      | succ n ih =>
        intro B hB
        unfold allR
        rw [ih (B + 1) (by omega)]
        congr 1
        unfold foB
        rw [h B (by omega)]
    exact key _ _ (by omega)
  · rw [show i - B = 0 by omega]; rfl
/-- all of a check-in -/
theorem ci_all {c : Nat} {g : Nat → Int32} {f : Nat → Nat → Int32} {N i j : Nat} (hc : c < 512) (hI : Inv c g f) (hN : g 7 = nI N) (hNb : N ≤ 200) (hij : i + j < 200) :
    ∃ (N1 m : Nat) (r t c8 : Int32), N1 = (if N ≤ i + j then i + j + 1 else N) ∧ (ciS g f i j).1 7 = nI (N1 + m) ∧ N1 + m ≤ 200 ∧ (∀ q, q < 7 → (ciS g f i j).1 q = g q) ∧ (ciS g f i j).2 1 = tkU (f 1) i (i + j + 1) ∧ (∀ k, k < N → (ciS g f i j).2 0 k = f 0 k) ∧
      (∀ k, N ≤ k → k < N1 + m → (ciS g f i j).2 0 k = nxL g ((ciS g f i j).2 0 (k - 1)) (if k = N ∧ N ≤ i + j then g 8 else if k = N1 then c8 else 0) ∧ (k ≤ i + j ∨ (ciS g f i j).2 0 k ≤ g 0)) ∧
      t = g 0 - (ciS g f i j).2 0 i ∧ r = (if ¬ g 11 ≤ 0 ∧ foM g (ciS g f i j).2 i = true ∧ t = g 10 then g 11 + 1 else 1) ∧ c8 = (if N ≤ i + j then 0 else g 8) + (if shB r t = true then t else 0) ∧
      (ciS g f i j).1 8 = (if 0 < m then 0 else c8) ∧ (ciS g f i j).1 9 = nI i ∧ (ciS g f i j).1 10 = t ∧ (ciS g f i j).1 11 = (if shB r t = true then 0 else r) ∧
      (N1 + m = 200 ∨ g 0 < nxL g ((ciS g f i j).2 0 (N1 + m - 1)) ((ciS g f i j).1 8)) ∧ SH c8 := by
  obtain ⟨N', e, h1, h2, h3, h4⟩ := inv_N hI
  have eN : N' = N := (nI_eq (by omega) (by omega)).mp (e.symm.trans hN)
  subst eN
  obtain ⟨hIM, -⟩ := ciM_inv (i := i) (j := j) (Nat.le_of_lt hc) hI hij
  have hIC := inv_cnt hc hIM (t := (ciM g f i j).1 0 - (ciM g f i j).2 0 i) (i := i) (by omega)
  have hM : ciM g f i j = itF (i + j + 1 - N') (g, f) := by unfold ciM; rw [h3]
  obtain ⟨a1, a2, a3, a4, a5⟩ := it_F (i + j + 1 - N') g f N' hN h1 (by omega)
  have b1 := itF_row (q := 1) (by decide) (i + j + 1 - N') g f
  rw [← hM] at a1 a2 a3 a4 a5 b1
  obtain ⟨N1, hN1⟩ : ∃ N1, N1 = (if N' ≤ i + j then i + j + 1 else N') := ⟨_, rfl⟩
  have eN1 : N' + (i + j + 1 - N') = N1 := by rw [hN1]; split <;> omega
  rw [eN1] at a1 a5
  have hrow := row_eq hIM (i := i) (by omega)
  obtain ⟨t, ht⟩ : ∃ t, t = (ciM g f i j).1 0 - (ciM g f i j).2 0 i := ⟨_, rfl⟩
  obtain ⟨r, hr⟩ : ∃ r, r = rowD (ciM g f i j).1 (ciM g f i j).2 i := ⟨_, rfl⟩
  obtain ⟨d1, d2, d3, d4, d5⟩ := cnt_8 (g := (ciM g f i j).1) (t := t) (r := r) (i := i)
  have hciS : ciS g f i j = lkS (cntG (ciM g f i j).1 t r i) (up2 (ciM g f i j).2 1 (tkU ((ciM g f i j).2 1) i (i + j + 1))) := by unfold ciS; rw [← ht, ← hr]
  rw [← ht, ← hr] at hIC
  have e7 : cntG (ciM g f i j).1 t r i 7 = nI N1 := by rw [d5 7 (by decide)]; exact a1
  have hN1b : N1 ≤ 200 ∧ 1 ≤ N1 ∧ i < N1 := by rw [hN1]; split <;> omega
  obtain ⟨m, m1, m2, m3, m4⟩ := lk_it (200 - N1) (cntG (ciM g f i j).1 t r i) (up2 (ciM g f i j).2 1 (tkU ((ciM g f i j).2 1) i (i + j + 1))) N1 e7 hN1b.2.1 (by omega)
  obtain ⟨s1, s2, s3, s4, s5⟩ := it_F m (cntG (ciM g f i j).1 t r i) (up2 (ciM g f i j).2 1 (tkU ((ciM g f i j).2 1) i (i + j + 1))) N1 e7 hN1b.2.1 (by omega)
  have b2 := itF_row (q := 1) (by decide) m (cntG (ciM g f i j).1 t r i) (up2 (ciM g f i j).2 1 (tkU ((ciM g f i j).2 1) i (i + j + 1)))
  have hlk : ciS g f i j = itF m (cntG (ciM g f i j).1 t r i, up2 (ciM g f i j).2 1 (tkU ((ciM g f i j).2 1) i (i + j + 1))) := by
    rw [hciS]; unfold lkS; rw [e7, nI_clamp (by omega)]; exact m2
  rw [← hlk] at m3 m4 s1 s2 s3 s4 s5 b2
  have s4' : ∀ k, k < N1 → (ciS g f i j).2 0 k = (ciM g f i j).2 0 k := s4
  have b2' : (ciS g f i j).2 1 = tkU (f 1) i (i + j + 1) := by rw [b2]; show tkU ((ciM g f i j).2 1) i (i + j + 1) = _; rw [b1]
  have hg1 : cntG (ciM g f i j).1 t r i 1 = g 1 := by rw [d5 1 (by decide)]; exact a2 1 (by decide) (by decide)
  have hg4 : cntG (ciM g f i j).1 t r i 4 = g 4 := by rw [d5 4 (by decide)]; exact a2 4 (by decide) (by decide)
  have hg0 : cntG (ciM g f i j).1 t r i 0 = g 0 := by rw [d5 0 (by decide)]; exact a2 0 (by decide) (by decide)
  have et : t = g 0 - (ciS g f i j).2 0 i := by rw [ht, a2 0 (by decide) (by decide), s4' i hN1b.2.2]
  have e8M : (ciM g f i j).1 8 = (if N' ≤ i + j then 0 else g 8) := by
    rw [a3]
    by_cases z : N' ≤ i + j
    · rw [if_neg (by omega), if_pos z]
    · rw [if_pos (by omega), if_neg z]
  have ec8 : cntG (ciM g f i j).1 t r i 8 = (if N' ≤ i + j then 0 else g 8) + (if shB r t = true then t else 0) := by rw [d1, e8M]
  have hfo : foM (ciM g f i j).1 (ciM g f i j).2 i = foM g (ciS g f i j).2 i := by
    have q1 : foM (ciM g f i j).1 (ciM g f i j).2 i = foM g (ciM g f i j).2 i := by
      unfold foM; rw [a2 9 (by decide) (by decide)]
    rw [q1]
    refine (foM_co (fun k hk => ?_)).symm
    rw [b2', b1]; unfold tkU; rw [if_neg (by omega)]
  have er : r = (if ¬ g 11 ≤ 0 ∧ foM g (ciS g f i j).2 i = true ∧ t = g 10 then g 11 + 1 else 1) := by
    rw [hr, ← hrow]
    unfold rowM
    rw [hfo, ← ht, a2 11 (by decide) (by decide), a2 10 (by decide) (by decide)]
  refine ⟨N1, m, r, t, cntG (ciM g f i j).1 t r i 8, hN1, s1, by omega, fun q hq => ?_, b2', fun k hk => ?_, fun k hk hk2 => ?_, et, er, ec8, ?_, ?_, ?_, ?_, ?_, inv_SH hIC hc⟩
  · rw [s2 q (by omega) (by omega), d5 q (by omega)]; exact a2 q (by omega) (by omega)
  · rw [s4' k (by omega)]; exact a4 k hk
  · rcases Nat.lt_or_ge k N1 with z | z
    · have hle : N' ≤ i + j := by
        rcases Nat.lt_or_ge (i + j) N' with y | y
        · rw [if_neg (by omega)] at hN1; omega
        · exact y
      have z2 : N1 = i + j + 1 := by rw [hN1, if_pos hle]
      refine ⟨?_, Or.inl (by omega)⟩
      have ew : (if k = N' ∧ N' ≤ i + j then g 8 else if k = N1 then cntG (ciM g f i j).1 t r i 8 else 0) = (if k = N' then g 8 else 0) := by
        by_cases y : k = N'
        · rw [if_pos ⟨y, hle⟩, if_pos y]
        · rw [if_neg (fun q => y q.1), if_neg (show ¬ k = N1 by omega), if_neg y]
      rw [ew, s4' k z, s4' (k - 1) (by omega)]
      exact a5 k hk z
    · have hk3 : ¬ (k = N' ∧ N' ≤ i + j) := fun q => by
        rw [hN1, if_pos q.2] at z; omega
      refine ⟨?_, Or.inr ?_⟩
      · rw [s5 k z hk2, nxL_co hg1 hg4, if_neg hk3]
      · have := m4 k z hk2
        rwa [hg0] at this
  · rw [s3]
    by_cases y : m = 0
    · rw [if_pos y, if_neg (by omega)]
    · rw [if_neg y, if_pos (by omega)]
  · rw [s2 9 (by decide) (by decide)]; exact d2
  · rw [s2 10 (by decide) (by decide)]; exact d3
  · rw [s2 11 (by decide) (by decide)]; exact d4
  · rcases m3 with h | h
    · exact Or.inl (by omega)
    · right
      rw [hg0, nd_L, s1, nI_clamp (by omega), nxL_co ((s2 1 (by decide) (by decide)).trans hg1) ((s2 4 (by decide) (by decide)).trans hg4)] at h
      exact h
theorem th_ci {g : Nat → Int32} {f : Nat → Nat → Int32} {i j : Nat} (hij : i + j < 200) (hj : j ≤ 5) : thC g f (nI i) (nI j) = if allR (opB g f) i (i + j + 1 - i) = true then 0 else 3 := by
  unfold thC
  have h1 : ciG (nI i) (nI j) = true := by
    unfold ciG
    rw [nI_add]
    have q1 : ¬ nI j < 0 := nI_pos (by omega)
    have q2 : ¬ (5 : Int32) < nI j := fun q => by have := (nI_ltI (a := 5) (b := j) (by decide) (by omega)).mp q; omega
    have q3 : ¬ (200 : Int32) ≤ nI (i + j) := nI_ge (b := 200) hij (by decide)
    unfold isW
    rw [decide_eq_false q1, decide_eq_false q2, decide_eq_false q3]; rfl
  rw [if_neg (by rw [isI_nI (by omega)]; decide), if_neg (by rw [h1]; decide), nI_clamp (by omega), nI_clamp (by omega)]
theorem op_out {g : Nat → Int32} {f : Nat → Nat → Int32} {N k n : Nat} (hN : g 7 = nI N) (hk : N ≤ k) (hn : k + n < 1000) : allR (opB g f) k n = true := by
  rw [allR_all]
  intro j h1 h2
  unfold opB
  rw [decide_eq_true (show g 7 ≤ nI j by rw [hN]; exact nI_le (by omega) (by omega))]; rfl
theorem due_eq {f : Nat → Nat → Int32} {i b k N : Nat} (hz : ∀ k, N ≤ k → f 1 k = 0) (h : k < 60 ∨ N ≤ k) : tkU (f 1) i (i + b + 1) k = if k = i then 1 else if i < k ∧ k ≤ i + b then 2 else if k < N ∧ k < 60 then f 1 k else 0 := by
  unfold tkU
  by_cases h1 : k = i
  · rw [if_pos ⟨by omega, by omega⟩, if_pos h1, if_pos h1]
  · rw [if_neg h1]
    by_cases h2 : i < k ∧ k ≤ i + b
    · rw [if_pos ⟨by omega, by omega⟩, if_neg h1, if_pos h2]
    · rw [if_neg (by omega), if_neg h1, if_neg h2]
      by_cases h3 : k < N ∧ k < 60
      · rw [if_pos h3]
      · rw [if_neg h3]; exact hz k (by omega)
theorem cc_ci {g G : Nat → Int32} {r t v : Int32} {i : Nat} (h : ∀ q, q < 7 → G q = g q) (h9 : G 9 = nI i) (h10 : G 10 = t) (h11 : G 11 = v) : upd (upd (upd (upd (ccG g) 9 r) 7 (nI i)) 8 t) 9 v = ccG G := by
  funext k
  rcases (show k = 0 ∨ k = 1 ∨ k = 2 ∨ k = 3 ∨ k = 4 ∨ k = 5 ∨ k = 6 ∨ k = 7 ∨ k = 8 ∨ k = 9 ∨ 10 ≤ k by omega) with q | q | q | q | q | q | q | q | q | q | q
  · subst q; exact (h 0 (by decide)).symm
  · subst q; exact (h 1 (by decide)).symm
  · subst q; exact (h 2 (by decide)).symm
  · subst q; exact (h 3 (by decide)).symm
  · subst q; exact (h 4 (by decide)).symm
  · subst q; exact (h 5 (by decide)).symm
  · subst q; exact (h 6 (by decide)).symm
  · subst q; exact h9.symm
  · subst q; exact h10.symm
  · subst q; exact h11.symm
  · rw [pk_un (by omega), pk_un (by omega), pk_un (by omega), pk_un (by omega)]
    obtain ⟨j, rfl⟩ : ∃ j, k = j + 10 := ⟨k - 10, by omega⟩
    rfl
theorem up_1 {ww h1 : Nat → Int32} {k j : Nat} (h : ∀ j, j < k → ww j = h1 j) (hj : j < k + 1) : upd ww k (h1 k) j = h1 j := by
  by_cases q : j = k
  · subst q; exact pk_us
  · rw [pk_un q]; exact h j (by omega)
theorem tk_03 {f : Nat → Nat → Int32} {i e : Nat} (h : ∀ k, k < 200 → 0 ≤ f 1 k ∧ f 1 k ≤ 3) (k : Nat) (hk : k < 200) : 0 ≤ tkU (f 1) i e k ∧ tkU (f 1) i e k ≤ 3 := by
  unfold tkU
  split
  · split <;> decide
  · exact h k hk
