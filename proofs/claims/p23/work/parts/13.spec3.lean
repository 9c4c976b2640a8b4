theorem isW_nI {x : Int32} {a b : Nat} (hb : b < 10000) (ha : a ≤ 1) (h : isW x (nI a) (nI b) = true) : ∃ k, a ≤ k ∧ k ≤ b ∧ x = nI k := by
  simp only [isW, Bool.and_eq_true, Bool.not_eq_true', decide_eq_false_iff_not] at h
  have h0 : ¬ x < 0 := by
    intro q
    refine h.1 ?_
    rw [Int32.lt_iff_toInt_lt] at q ⊢
    rw [nI_toInt (by omega)]
    have : (0 : Int32).toInt = 0 := rfl
    omega
  obtain ⟨k, hk, e⟩ := nI_of h0
  subst e
  refine ⟨k, ?_, ?_, rfl⟩
  · rcases Nat.lt_or_ge k a with q | q
    · exact absurd (nI_lt q (by omega)) h.1
    · exact q
  · rcases Nat.lt_or_ge b k with q | q
    · exact absurd (nI_lt q (by omega)) h.2
    · exact q
def okSP (p0 p1 p3 : Int32) : Bool := isW p0 1 90 && (isW p1 1 20 && isW p3 0 4094)
def gSP (g : Nat → Int32) (p0 p1 p2 p3 : Int32) : Nat → Int32 := upd (upd (upd (upd g 1 p0) 2 p1) 3 p2) 4 p3
theorem inv_SP {c : Nat} {g : Nat → Int32} {f : Nat → Nat → Int32} {p0 p1 p2 p3 : Int32} (h : Inv c g f) (ho : okSP p0 p1 p3 = true) (h2 : p2 = 0 ∨ p2 = 1) : Inv c (gSP g p0 p1 p2 p3) f := by
  obtain ⟨g1, g2, g3, g4, g5, g6, g7, g8, g9, g10⟩ := h
  simp only [okSP, Bool.and_eq_true] at ho
  obtain ⟨P, p1, p2', p3'⟩ := isW_nI (a := 1) (b := 90) (by decide) (by decide) ho.1
  obtain ⟨S, s1, s2, s3⟩ := isW_nI (a := 1) (b := 20) (by decide) (by decide) ho.2.1
  obtain ⟨K, k1, k2, k3⟩ := isW_nI (a := 0) (b := 4094) (by decide) (by decide) ho.2.2
  exact ⟨g1, ⟨P, p3', p1, p2'⟩, ⟨S, s3, s1, s2⟩, ⟨K, k3, k2⟩, g5, g6, g7, g8, h2, g10⟩
def lkS (g : Nat → Int32) (f : Nat → Nat → Int32) : (Nat → Int32) × (Nat → Nat → Int32) := lkF (200 - (g 7).toNatClampNeg) (g, f)
def okSC (p0 p1 : Int32) : Bool := isW p0 0 100 && isW p1 1 100
theorem inv_SC {c : Nat} {g : Nat → Int32} {f : Nat → Nat → Int32} {p0 p1 : Int32} (h : Inv c g f) : Inv c (upd (upd g 5 p0) 6 p1) f := h
def thA (g : Nat → Int32) (p0 : Int32) : Int32 := if isW p0 1 400 = false then 1 else if 7200 < g 0 + p0 then 2 else 0
theorem inv_A {c : Nat} {g : Nat → Int32} {f : Nat → Nat → Int32} {p0 : Int32} (h : Inv c g f) (h1 : isW p0 1 400 = true) (h2 : ¬ 7200 < g 0 + p0) : Inv c (upd g 0 (g 0 + p0)) f := by
  obtain ⟨g1, g2, g3, g4, g5, g6, g7, g8, g9, g10⟩ := h
  obtain ⟨P, p1, p2, p3⟩ := isW_nI (a := 1) (b := 400) (by decide) (by decide) h1
  obtain ⟨D, d1, d2⟩ := g5
  have e : g 0 + p0 = nI (D + P) := by rw [d1, p3]; exact nI_add _ _
  have hD : D + P ≤ 7200 := by
    rcases Nat.lt_or_ge 7200 (D + P) with q | q
    · exact absurd (by rw [e]; exact nI_lt (a := 7200) q (by omega)) h2
    · exact q
  exact ⟨g1, g2, g3, g4, ⟨D + P, e, hD⟩, g6, g7, g8, g9, g10⟩
theorem lkF_inv {c : Nat} (hc : c ≤ 512) : ∀ (n : Nat) (g : Nat → Int32) (f : Nat → Nat → Int32) (N : Nat), g 7 = nI N → N + n ≤ 200 → Inv c g f → Inv c (lkF n (g, f)).1 (lkF n (g, f)).2
  | 0, g, f, N, _, _, h => h
  | n + 1, g, f, N, hN, hl, h => by
    rw [lkF_step]
    split
    · exact h
    · obtain ⟨h1, h2⟩ := inv_fore hc h hN (by omega)
      exact lkF_inv hc n _ _ (N + 1) h2 (by omega) h1
theorem lkS_inv {c : Nat} {g : Nat → Int32} {f : Nat → Nat → Int32} (hc : c ≤ 512) (h : Inv c g f) : Inv c (lkS g f).1 (lkS g f).2 := by
  obtain ⟨N, h1, h2, h3, h4, -⟩ := inv_N h
  unfold lkS
  rw [h4]
  exact lkF_inv hc _ g f N h1 (by omega) h
theorem itF_inv {c : Nat} (hc : c ≤ 512) : ∀ (n : Nat) (g : Nat → Int32) (f : Nat → Nat → Int32) (N : Nat), g 7 = nI N → N + n ≤ 200 → Inv c g f → Inv c (itF n (g, f)).1 (itF n (g, f)).2 ∧ (itF n (g, f)).1 7 = nI (N + n)
  | 0, g, f, N, hN, _, h => ⟨h, hN⟩
  | n + 1, g, f, N, hN, hl, h => by
    rw [itF_step]
    obtain ⟨h1, h2⟩ := inv_fore hc h hN (by omega)
    have := itF_inv hc n _ _ (N + 1) h2 (by omega) h1
    rw [show N + 1 + n = N + (n + 1) by omega] at this
    exact this
theorem inv_mono {c d : Nat} {g : Nat → Int32} {f : Nat → Nat → Int32} (h : Inv c g f) (hcd : c ≤ d) : Inv d g f := by
  obtain ⟨g1, g2, g3, g4, g5, g6, g7, g8, g9, g10⟩ := h
  exact ⟨g1, g2, g3, g4, g5, by omega, g7, by omega, g9, g10⟩
/-- rows that the invariant doesn't speak of may change -/
theorem inv_row {c : Nat} {g : Nat → Int32} {f f' : Nat → Nat → Int32} (h : Inv c g f) (h0 : f' 0 = f 0) (h4 : f' 4 = f 4) : Inv c g f' := by
  obtain ⟨g1, g2, g3, g4, g5, g6, g7, g8, g9, g10⟩ := h
  exact ⟨by rw [h0]; exact g1, g2, g3, g4, g5, g6, g7, g8, g9, by rw [h4]; exact g10⟩
theorem okS_rng {x : Int32} (h : okS x = true) : -15 ≤ x.toInt ∧ x.toInt ≤ 15 := by
  simp only [okS, isW, Bool.and_eq_true, Bool.not_eq_true', decide_eq_false_iff_not] at h
  have h1 := h.2.1
  have h2 := h.2.2
  rw [Int32.lt_iff_toInt_lt] at h1 h2
  have e1 : (-15 : Int32).toInt = -15 := rfl
  have e2 : (15 : Int32).toInt = 15 := rfl
  omega
theorem inv_cnt {c : Nat} {g : Nat → Int32} {f : Nat → Nat → Int32} (hc : c < 512) (h : Inv c g f) {t : Int32} {i : Nat} (hi : i < 200) : Inv (c + 1) (cntG g t (rowD g f i) i) f := by
  obtain ⟨g1, g2, g3, g4, g5, g6, g7, g8, g9, g10⟩ := h
  have e0 : (0 : Int32).toInt = 0 := rfl
  have e1 : (1 : Int32).toInt = 1 := rfl
  have hr : 0 ≤ (rowD g f i).toInt ∧ (rowD g f i).toInt ≤ ((c + 1 : Nat) : Int) := by
    unfold rowD
    split
    · rw [i_add (by omega) (by omega)]; omega
    · omega
  have hb : ∃ B, nI i = nI B - 1 ∧ B ≤ 200 ∧ (B = 0 → ∀ z : Int32, z = 0) := ⟨i + 1, by rw [← nI_1]; exact (Int32.add_sub_cancel _ _).symm, by omega, by omega⟩
  obtain ⟨B, b1, b2, b3⟩ := hb
  unfold cntG
  split
  · exact ⟨g1, g2, g3, g4, g5, ⟨by show _ ≤ (g 8).toInt; omega, by show (g 8).toInt ≤ _; omega⟩, ⟨B, b1, b2, fun q => b3 q _⟩, hr, g9, g10⟩
  · rename_i hq
    have ho : okS t = true := by cases z : okS t with | true => rfl | false => exact absurd (Or.inr z) hq
    have hs := okS_rng ho
    have e8 : (g 8 + t).toInt = (g 8).toInt + t.toInt := i_add (by omega) (by omega)
    exact ⟨g1, g2, g3, g4, g5, ⟨by show _ ≤ (g 8 + t).toInt; omega, by show (g 8 + t).toInt ≤ _; omega⟩, ⟨B, b1, b2, fun _ => rfl⟩, ⟨by show 0 ≤ (0 : Int32).toInt; omega, by show (0 : Int32).toInt ≤ _; omega⟩, g9, g10⟩
def ciM (g : Nat → Int32) (f : Nat → Nat → Int32) (i j : Nat) : (Nat → Int32) × (Nat → Nat → Int32) := itF (i + j + 1 - (g 7).toNatClampNeg) (g, f)
def ciS (g : Nat → Int32) (f : Nat → Nat → Int32) (i j : Nat) : (Nat → Int32) × (Nat → Nat → Int32) :=
  lkS (cntG (ciM g f i j).1 ((ciM g f i j).1 0 - (ciM g f i j).2 0 i) (rowD (ciM g f i j).1 (ciM g f i j).2 i) i) (up2 (ciM g f i j).2 1 (tkU ((ciM g f i j).2 1) i (i + j + 1)))
theorem foD_tk (g : Nat → Int32) (f : Nat → Nat → Int32) (i e : Nat) : foD g (up2 f 1 (tkU (f 1) i e)) i = foD g f i := by
  unfold foD
  by_cases q : (g 9 + 1).toNatClampNeg ≤ i
  · congr 1
    generalize (g 9 + 1).toNatClampNeg = B at q ⊢
    have key : ∀ n B, B + n ≤ i → allR (foB (up2 f 1 (tkU (f 1) i e))) B n = allR (foB f) B n := by
      intro n
      induction n with
      | zero => intro B _; rfl
      | succ n ih =>
        intro B hB
        unfold allR
        rw [ih (B + 1) (by omega)]
        congr 1
        show (decide (tkU (f 1) i e B = 2) || decide (tkU (f 1) i e B = 3)) = _
        have : tkU (f 1) i e B = f 1 B := by unfold tkU; rw [if_neg (by omega)]
        rw [this]; rfl
    exact key _ _ (by omega)
  · rw [decide_eq_false q]; rfl
theorem rowD_tk (g : Nat → Int32) (f : Nat → Nat → Int32) (i e : Nat) : rowD g (up2 f 1 (tkU (f 1) i e)) i = rowD g f i := by
  unfold rowD; rw [foD_tk]; rfl
theorem ciM_inv {c : Nat} {g : Nat → Int32} {f : Nat → Nat → Int32} {i j : Nat} (hc : c ≤ 512) (h : Inv c g f) (hij : i + j < 200) : Inv c (ciM g f i j).1 (ciM g f i j).2 ∧ ∃ M, (ciM g f i j).1 7 = nI M ∧ i + j < M ∧ M ≤ 200 := by
  obtain ⟨N, h1, h2, h3, h4, -⟩ := inv_N h
  unfold ciM
  rw [h4]
  obtain ⟨q1, q2⟩ := itF_inv hc (i + j + 1 - N) g f N h1 (by omega) h
  exact ⟨q1, _, q2, by omega, by omega⟩
theorem ciS_inv {c : Nat} {g : Nat → Int32} {f : Nat → Nat → Int32} {i j : Nat} (hc : c < 512) (h : Inv c g f) (hij : i + j < 200) : Inv (c + 1) (ciS g f i j).1 (ciS g f i j).2 := by
  have h1 := (ciM_inv (i := i) (j := j) (by omega) h hij).1
  exact lkS_inv (by omega) (inv_row (inv_cnt hc h1 (by omega)) rfl rfl)
/-- a round: who is claimed or given up -/
def rdB (g : Nat → Int32) (f : Nat → Nat → Int32) (k : Nat) : Bool := lateB g f k && dueB g f (f 3) k
def clB (f : Nat → Nat → Int32) (k : Nat) : Bool := !decide (3 ≤ f 2 k)
def rd1 (g : Nat → Int32) (f : Nat → Nat → Int32) (i : Nat) : Nat → Int32 := fun k => if k < i ∧ rdB g f k = true ∧ clB f k = false then 3 else f 1 k
def rd2 (g : Nat → Int32) (f : Nat → Nat → Int32) (i : Nat) : Nat → Int32 := fun k => if k < i ∧ rdB g f k = true ∧ clB f k = true then f 2 k + 1 else f 2 k
def rd3 (g : Nat → Int32) (f : Nat → Nat → Int32) (i : Nat) : Nat → Int32 := fun k => if k < i ∧ rdB g f k = true then g 0 else f 3 k
def rdc (g : Nat → Int32) (f : Nat → Nat → Int32) (cd : Nat → Int32) (i : Nat) : Nat → Int32 := fun k => if k < i ∧ rdB g f k = true ∧ clB f k = true then g 0 else cd k
def rdF (g : Nat → Int32) (f : Nat → Nat → Int32) (i : Nat) : Nat → Nat → Int32 := up2 (up2 (up2 f 1 (rd1 g f i)) 2 (rd2 g f i)) 3 (rd3 g f i)
def rdN (g : Nat → Int32) (f : Nat → Nat → Int32) (i : Nat) : Nat := cnt (fun k => rdB g f k && clB f k) i
theorem w_step {h h' : Nat → Int32} {i : Nat} {v : Int32} (e1 : h' i = v) (e2 : ∀ k, k ≠ i → h' k = h k) : upd h i v = h' := by
  funext k; unfold upd
  by_cases q : k = i
  · rw [if_pos q, q, e1]
  · rw [if_neg q, e2 k q]
theorem w_same {h h' : Nat → Int32} (e : ∀ k, h' k = h k) : h = h' := by funext k; exact (e k).symm
theorem lt_ne {k i : Nat} (h : k ≠ i) : (k < i + 1) = (k < i) := propext ⟨fun q => by omega, fun q => by omega⟩
def CD (f : Nat → Nat → Int32) (cd : Nat → Int32) : Prop := ∀ k, k < 200 → f 1 k = 0 → cd k = f 3 k
theorem due_CD {g : Nat → Int32} {f : Nat → Nat → Int32} {cd : Nat → Int32} {k : Nat} (h : CD f cd) (hk : k < 200) (hl : lateB g f k = true) : dueB g f cd k = dueB g f (f 3) k := by
  have h0 : f 1 k = 0 := by simp only [lateB, Bool.and_eq_true, decide_eq_true_eq] at hl; exact hl.1.2
  unfold dueB; rw [h k hk h0]
theorem CD_rd {g : Nat → Int32} {f : Nat → Nat → Int32} {cd : Nat → Int32} (h : CD f cd) : CD (rdF g f 200) (rdc g f cd 200) := by
  intro k hk h0
  have h1 : rd1 g f 200 k = 0 := h0
  show rdc g f cd 200 k = rd3 g f 200 k
  unfold rd1 at h1
  unfold rdc rd3
  by_cases q : rdB g f k = true
  · by_cases q2 : clB f k = true
    · rw [if_pos ⟨hk, q, q2⟩, if_pos ⟨hk, q⟩]
    · rw [if_pos ⟨hk, q, Bool.eq_false_iff.mpr q2⟩] at h1; exact absurd h1 (by decide)
  · rw [if_neg (fun z => q z.2.1)] at h1
    rw [if_neg (fun z => q z.2.1), if_neg (fun z => q z.2)]
    exact h k hk h1
theorem rdB_out {g : Nat → Int32} {f : Nat → Nat → Int32} {k : Nat} (h : g 7 ≤ nI k) : rdB g f k = false := by unfold rdB; rw [lateB_out h]; rfl
theorem rd_cut {g : Nat → Int32} {f : Nat → Nat → Int32} {N : Nat} (hN : g 7 = nI N) (h2 : N ≤ 200) : rdF g f N = rdF g f 200 ∧ rdN g f N = rdN g f 200 := by
  have key : ∀ k, (k < N ∧ rdB g f k = true) = (k < 200 ∧ rdB g f k = true) := fun k => propext ⟨fun q => ⟨by omega, q.2⟩, fun q => ⟨by
    rcases Nat.lt_or_ge k N with z | z
    · exact z
    · rw [rdB_out (by rw [hN]; exact nI_le z (by omega))] at q; exact absurd q.2 (by decide), q.2⟩⟩
  have e1 : rd1 g f N = rd1 g f 200 := by funext k; unfold rd1; simp only [← and_assoc, key k]
  have e2 : rd2 g f N = rd2 g f 200 := by funext k; unfold rd2; simp only [← and_assoc, key k]
  have e3 : rd3 g f N = rd3 g f 200 := by funext k; unfold rd3; simp only [key k]
  refine ⟨by unfold rdF; rw [e1, e2, e3], ?_⟩
  unfold rdN
  exact (cnt_200 h2 (fun k h3 h4 => by rw [rdB_out (by rw [hN]; exact nI_le h3 (by omega))]; rfl)).symm
