theorem i_30 : (30 : Int32) = nI 30 := rfl
theorem i_12 : (12 : Int32) = nI 12 := rfl
theorem num_m : ∀ m, m < 32 → (((nI m) &&& 31).toBitVec.smod 32).toNat = m := by decide
theorem barV_nI {g : Nat → Int32} {K n : Nat} (hK : g 4 = nI K) (hk : K ≤ 4094) (hn : n < 2 ^ 30) : barV g (nI n) = nI (K / 2 ^ (n / 30 % 12) % 2) := by
  unfold barV
  have e1 : nI n / 30 = nI (n / 30) := by rw [i_30]; exact pk_div (by omega) (by decide) (by decide)
  have e2 : nI (n / 30) - nI (n / 30) / 12 * 12 = nI (n / 30 % 12) := by rw [i_12]; exact pk_rem (by omega) (by decide) (by decide)
  rw [e1, e2, hK, pk_shrN (by omega) _ (n / 30 % 12) (num_m _ (by omega))]
  have h2 : K / 2 ^ (n / 30 % 12) < 2 ^ 32 := Nat.lt_of_le_of_lt (Nat.div_le_self _ _) (by omega)
  exact pk_andN h2 1 (by decide)
theorem bar_nI {g : Nat → Int32} {K n : Nat} (hK : g 4 = nI K) (hk : K ≤ 4094) (hn : n < 2 ^ 30) : bar g (nI n) = decide (K / 2 ^ (n / 30 % 12) % 2 = 1) := by
  unfold bar
  rw [barV_nI hK hk hn]
  have h : K / 2 ^ (n / 30 % 12) % 2 = 0 ∨ K / 2 ^ (n / 30 % 12) % 2 = 1 := by omega
  rcases h with h | h <;> rw [h] <;> decide
theorem num_free (K : Nat) (h : K < 4095) : ∃ m, m < 12 ∧ K / 2 ^ m % 2 = 0 := by
  apply Classical.byContradiction
  intro hn
  have q : ∀ m, m < 12 → K / 2 ^ m % 2 = 1 := fun m hm => by
    rcases Nat.mod_two_eq_zero_or_one (K / 2 ^ m) with z | z
    · exact absurd ⟨m, hm, z⟩ hn
    · exact z
  have h0 := q 0 (by decide); have h1 := q 1 (by decide); have h2 := q 2 (by decide); have h3 := q 3 (by decide); have h4 := q 4 (by decide); have h5 := q 5 (by decide)
  have h6 := q 6 (by decide); have h7 := q 7 (by decide); have h8 := q 8 (by decide); have h9 := q 9 (by decide); have h10 := q 10 (by decide); have h11 := q 11 (by decide)
  simp only [Nat.reducePow, Nat.div_one] at h0 h1 h2 h3 h4 h5 h6 h7 h8 h9 h10 h11
  omega
def nxF (g : Nat → Int32) : Nat → Nat → Nat
  | 0, n => n
  | k + 1, n => if bar g (nI n) = true then nxF g k (n + 1) else n
def nx (g : Nat → Int32) (n : Nat) : Nat := nxF g 400 n
theorem nxF_eq {g : Nat → Int32} {r : Nat} (hr : bar g (nI r) = false) : ∀ (k n : Nat), n ≤ r → r < n + k → (∀ e, n ≤ e → e < r → bar g (nI e) = true) → nxF g k n = r
  | 0, n, h1, h2, h3 => by omega
  | k + 1, n, h1, h2, h3 => by
    unfold nxF
    by_cases q : n = r
    · subst q; rw [if_neg (by rw [hr]; decide)]
    · rw [if_pos (h3 n (Nat.le_refl _) (by omega))]
      exact nxF_eq hr k (n + 1) (by omega) (by omega) (fun e h4 h5 => h3 e (by omega) h5)
theorem nx_eq {g : Nat → Int32} {n r : Nat} (hr : bar g (nI r) = false) (h1 : n ≤ r) (h2 : r < n + 400) (h3 : ∀ e, n ≤ e → e < r → bar g (nI e) = true) : nx g n = r := nxF_eq hr 400 n h1 h2 h3
theorem nxF_le (g : Nat → Int32) : ∀ (k n : Nat), n ≤ nxF g k n ∧ nxF g k n ≤ n + k
  | 0, n => ⟨Nat.le_refl _, Nat.le_refl _⟩
  | k + 1, n => by
    unfold nxF
    have h := nxF_le g k (n + 1)
    split <;> omega
/-- from any day on, a day that is not barred comes within a year -/
theorem num_unbar {g : Nat → Int32} {K n : Nat} (hK : g 4 = nI K) (hk : K ≤ 4094) (hn : n < 2 ^ 29) : ∃ r, n ≤ r ∧ r < n + 360 ∧ bar g (nI r) = false := by
  obtain ⟨m, hm, h0⟩ := num_free K (by omega)
  by_cases q : n / 30 % 12 = m
  · refine ⟨n, Nat.le_refl _, by omega, ?_⟩
    rw [bar_nI hK hk (by omega), q, h0]; rfl
  · refine ⟨30 * (n / 30 + (m + 12 - n / 30 % 12) % 12), by omega, by omega, ?_⟩
    have e : 30 * (n / 30 + (m + 12 - n / 30 % 12) % 12) / 30 % 12 = m := by omega
    rw [bar_nI hK hk (by omega), e, h0]; rfl
def d0I (g : Nat → Int32) (b : Int32) : Int := max (b.toInt + (g 1).toInt + (g 8).toInt) (b.toInt + 1)
def d0N (g : Nat → Int32) (f : Nat → Nat → Int32) : Nat := (d0I g (f 0 ((g 7).toNatClampNeg - 1))).toNat
def nd (g : Nat → Int32) (f : Nat → Nat → Int32) : Int32 := nI (nx g (d0N g f))
def foreG (g : Nat → Int32) : Nat → Int32 := upd (upd g 8 0) 7 (g 7 + 1)
def foreF (g : Nat → Int32) (f : Nat → Nat → Int32) : Nat → Nat → Int32 := up2 f 0 (upd (f 0) (g 7).toNatClampNeg (nd g f))
def Inv (c : Nat) (g : Nat → Int32) (f : Nat → Nat → Int32) : Prop :=
  (∃ N, g 7 = nI N ∧ 1 ≤ N ∧ N ≤ 200 ∧ ∀ i, i < N → ∃ d, f 0 i = nI d ∧ d ≤ 9000 * (i + 1)) ∧ (∃ P, g 1 = nI P ∧ 1 ≤ P ∧ P ≤ 90) ∧ (∃ S, g 2 = nI S ∧ 1 ≤ S ∧ S ≤ 20) ∧ (∃ K, g 4 = nI K ∧ K ≤ 4094) ∧ (∃ D, g 0 = nI D ∧ D ≤ 7200) ∧
  (-(15 * (c : Int)) ≤ (g 8).toInt ∧ (g 8).toInt ≤ 15 * c) ∧ (∃ B, g 9 = nI B - 1 ∧ B ≤ 200 ∧ (B = 0 → g 11 = 0)) ∧ (0 ≤ (g 11).toInt ∧ (g 11).toInt ≤ c) ∧ (g 3 = 0 ∨ g 3 = 1) ∧ (∀ i, f 4 i = 0 ∨ f 4 i = 1)
theorem i_bm {z : Int} (h1 : -2147483648 ≤ z) (h2 : z < 2147483648) : z.bmod (2 ^ 32) = z := by
  rw [Int.bmod_eq_of_le (by omega) (by omega)]
theorem i_add {x y : Int32} (h1 : -2147483648 ≤ x.toInt + y.toInt) (h2 : x.toInt + y.toInt < 2147483648) : (x + y).toInt = x.toInt + y.toInt := by
  rw [Int32.toInt_add]; exact i_bm h1 h2
theorem i_sub {x y : Int32} (h1 : -2147483648 ≤ x.toInt - y.toInt) (h2 : x.toInt - y.toInt < 2147483648) : (x - y).toInt = x.toInt - y.toInt := by
  rw [Int32.toInt_sub]; exact i_bm h1 h2
theorem i_nat {x : Int32} {n : Nat} (h : x.toInt = n) : x = nI n := by
  have h2 : n < 2 ^ 31 := by have := Int32.toInt_lt x; omega
  exact Int32.toInt_inj.mp (by rw [h, nI_toInt h2])
/-- the day that comes before the months are looked at, told as the desk does and as the reference does -/
theorem d0_all {g : Nat → Int32} {d P c : Nat} {b : Int32} (hb : b = nI d) (hd : d ≤ 1800000) (hP : g 1 = nI P) (h1 : 1 ≤ P) (h2 : P ≤ 90) (hc : c ≤ 512) (hs : -(15 * (c : Int)) ≤ (g 8).toInt ∧ (g 8).toInt ≤ 15 * c) :
    (if b + g 1 + g 8 < b + 1 then b + 1 else b + g 1 + g 8) = nI (d0I g b).toNat ∧ ((b < b + g 1 + g 8 → b + g 1 + g 8 = nI (d0I g b).toNat) ∧ (¬ b < b + g 1 + g 8 → b + 1 = nI (d0I g b).toNat)) ∧ (d0I g b).toNat ≤ d + 7770 := by
  have eb : b.toInt = d := by rw [hb]; exact nI_toInt (by omega)
  have eP : (g 1).toInt = P := by rw [hP]; exact nI_toInt (by omega)
  have e1 : (b + g 1).toInt = d + P := by rw [i_add (by omega) (by omega)]; omega
  have e2 : (b + g 1 + g 8).toInt = d + P + (g 8).toInt := by rw [i_add (by omega) (by omega)]; omega
  have e9 : (1 : Int32).toInt = 1 := rfl
  have e3 : (b + 1).toInt = d + 1 := by rw [i_add (by omega) (by omega)]; omega
  have e0 : d0I g b = max ((d : Int) + P + (g 8).toInt) (d + 1) := by unfold d0I; rw [eb, eP]
  refine ⟨?_, ⟨fun h => ?_, fun h => ?_⟩, ?_⟩
  · split
    · rename_i h
      rw [Int32.lt_iff_toInt_lt, e2, e3] at h
      exact i_nat (by rw [e3, e0]; omega)
    · rename_i h
      rw [Int32.lt_iff_toInt_lt, e2, e3] at h
      exact i_nat (by rw [e2, e0]; omega)
  · rw [Int32.lt_iff_toInt_lt, e2, eb] at h
    exact i_nat (by rw [e2, e0]; omega)
  · rw [Int32.lt_iff_toInt_lt, e2, eb] at h
    exact i_nat (by rw [e3, e0]; omega)
  · rw [e0]; omega
theorem inv_N {c : Nat} {g : Nat → Int32} {f : Nat → Nat → Int32} (h : Inv c g f) : ∃ N, g 7 = nI N ∧ 1 ≤ N ∧ N ≤ 200 ∧ (g 7).toNatClampNeg = N ∧ ∀ i, i < N → ∃ d, f 0 i = nI d ∧ d ≤ 9000 * (i + 1) := by
  obtain ⟨N, h1, h2, h3, h4⟩ := h.1
  exact ⟨N, h1, h2, h3, by rw [h1]; exact nI_clamp (by omega), h4⟩
/-- what the next day's walk starts with -/
theorem inv_d0 {c : Nat} {g : Nat → Int32} {f : Nat → Nat → Int32} (hc : c ≤ 512) (h : Inv c g f) : ∃ N d, g 7 = nI N ∧ 1 ≤ N ∧ N ≤ 200 ∧ d0N g f = (d0I g (f 0 (N - 1))).toNat ∧ f 0 (N - 1) = nI d ∧ d ≤ 9000 * N ∧ d0N g f ≤ d + 7770 ∧
    (if f 0 (N - 1) + g 1 + g 8 < f 0 (N - 1) + 1 then f 0 (N - 1) + 1 else f 0 (N - 1) + g 1 + g 8) = nI (d0N g f) ∧ ((f 0 (N - 1) < f 0 (N - 1) + g 1 + g 8 → f 0 (N - 1) + g 1 + g 8 = nI (d0N g f)) ∧ (¬ f 0 (N - 1) < f 0 (N - 1) + g 1 + g 8 → f 0 (N - 1) + 1 = nI (d0N g f))) := by
  obtain ⟨N, e, h1, h2, h3, h4⟩ := inv_N h
  obtain ⟨P, p1, p2, p3⟩ := h.2.1
  obtain ⟨d, d1, d2⟩ := h4 (N - 1) (by omega)
  have hs := h.2.2.2.2.2.1
  have e0 : d0N g f = (d0I g (f 0 (N - 1))).toNat := by unfold d0N; rw [h3]
  have d2' : d ≤ 9000 * N := by rw [show N - 1 + 1 = N by omega] at d2; exact d2
  obtain ⟨q1, q2, q3⟩ := d0_all d1 (show d ≤ 1800000 by omega) p1 p2 p3 hc hs
  rw [← e0] at q1 q2 q3
  exact ⟨N, d, e, h1, h2, e0, d1, d2', q3, q1, q2⟩
theorem nd_le {c : Nat} {g : Nat → Int32} {f : Nat → Nat → Int32} (hc : c ≤ 512) (h : Inv c g f) : ∃ N d, g 7 = nI N ∧ nd g f = nI d ∧ d ≤ 9000 * (N + 1) := by
  obtain ⟨N, d, e, h1, h2, e0, d1, d2, q3, -⟩ := inv_d0 hc h
  have h5 := nxF_le g 400 (d0N g f)
  exact ⟨N, nx g (d0N g f), e, rfl, by unfold nx; omega⟩
theorem inv_fore {c : Nat} {g : Nat → Int32} {f : Nat → Nat → Int32} (hc : c ≤ 512) (h : Inv c g f) {N : Nat} (hN : g 7 = nI N) (hlt : N < 200) : Inv c (foreG g) (foreF g f) ∧ foreG g 7 = nI (N + 1) := by
  obtain ⟨N', e, h1, h2, h3, h4⟩ := inv_N h
  obtain ⟨N2, d2, e2, ed, h5⟩ := nd_le hc h
  have eN : N' = N := (nI_eq (by omega) (by omega)).mp (e.symm.trans hN)
  subst eN
  have e7 : foreG g 7 = nI (N' + 1) := by show g 7 + 1 = _; rw [e]; exact nI_1 _
  have hN2 : N2 ≤ 200 ∨ 200 < N2 := by omega
  have eN2 : nI N2 = nI N' := e2.symm.trans e
  obtain ⟨g1, g2, g3, g4, g5, g6, g7, g8, g9, g10⟩ := h
  refine ⟨⟨⟨N' + 1, e7, by omega, by omega, fun i hi => ?_⟩, g2, g3, g4, g5, ⟨by show -(15 * (c : Int)) ≤ (0 : Int32).toInt; have : (0 : Int32).toInt = 0 := rfl; omega, by show (0 : Int32).toInt ≤ 15 * (c : Int); have : (0 : Int32).toInt = 0 := rfl; omega⟩, g7, g8, g9, g10⟩, e7⟩
  show ∃ d, upd (f 0) (g 7).toNatClampNeg (nd g f) i = nI d ∧ d ≤ 9000 * (i + 1)
  rw [h3]
  by_cases q : i = N'
  · subst q
    obtain ⟨N3, d3, e3, hd3, h6⟩ := inv_d0 hc ⟨g1, g2, g3, g4, g5, g6, g7, g8, g9, g10⟩
    have eN3 : N3 = i := (nI_eq (by omega) (by omega)).mp (e3.symm.trans e)
    subst eN3
    refine ⟨nx g (d0N g f), by rw [pk_us]; rfl, ?_⟩
    have h7 := nxF_le g 400 (d0N g f)
    unfold nx; omega
  · obtain ⟨d, q1, q2⟩ := h4 i (by omega)
    exact ⟨d, by rw [pk_un q]; exact q1, q2⟩
theorem scan_step {q : Nat → Bool} {k : Int32} {i s : Nat} (h : i < 200) : scan q k i (200 - i) s = if q i = true then (if nI s = k then nI i else scan q k (i + 1) (200 - (i + 1)) (s + 1)) else scan q k (i + 1) (200 - (i + 1)) s := by
  rw [show 200 - i = (200 - (i + 1)) + 1 by omega]; rfl
def allR (p : Nat → Bool) : Nat → Nat → Bool
  | _, 0 => true
  | i, n + 1 => p i && allR p (i + 1) n
def firstR (q : Nat → Bool) : Nat → Nat → Int32
  | _, 0 => -1
  | i, n + 1 => if q i = true then nI i else firstR q (i + 1) n
def anyR (q : Nat → Bool) : Nat → Nat → Bool
  | _, 0 => false
  | i, n + 1 => q i || anyR q (i + 1) n
theorem allR_step {p : Nat → Bool} {i j : Nat} (h : i < j) : allR p i (j - i) = (p i && allR p (i + 1) (j - (i + 1))) := by
  rw [show j - i = (j - (i + 1)) + 1 by omega]; rfl
theorem anyR_step {p : Nat → Bool} {i j : Nat} (h : i < j) : anyR p i (j - i) = (p i || anyR p (i + 1) (j - (i + 1))) := by
  rw [show j - i = (j - (i + 1)) + 1 by omega]; rfl
theorem firstR_step {p : Nat → Bool} {i j : Nat} (h : i < j) : firstR p i (j - i) = if p i = true then nI i else firstR p (i + 1) (j - (i + 1)) := by
  rw [show j - i = (j - (i + 1)) + 1 by omega]; rfl
theorem eoR_step {g : Nat → Int32} {f : Nat → Nat → Int32} {i : Nat} (h : i < 199) : eoR g f (199 - i) i = if hereB g f (i + 1) = true then eoR g f (199 - (i + 1)) (i + 1) else i := by
  rw [show 199 - i = (199 - (i + 1)) + 1 by omega]; rfl
theorem allR_all {p : Nat → Bool} : ∀ (n i : Nat), allR p i n = true ↔ ∀ k, i ≤ k → k < i + n → p k = true
  | 0, i => ⟨fun _ k h1 h2 => by omega, fun _ => rfl⟩
  | n + 1, i => by
    unfold allR
    rw [Bool.and_eq_true, allR_all n (i + 1)]
    exact ⟨fun h k h1 h2 => by
      by_cases q : k = i
      · subst q; exact h.1
      · exact h.2 k (by omega) (by omega), fun h => ⟨h i (Nat.le_refl _) (by omega), fun k h1 h2 => h k (by omega) (by omega)⟩⟩
def opB (g : Nat → Int32) (f : Nat → Nat → Int32) (k : Nat) : Bool := decide (g 7 ≤ nI k) || decide (f 1 k = 0)
def foB (f : Nat → Nat → Int32) (k : Nat) : Bool := decide (f 1 k = 2) || decide (f 1 k = 3)
def okS (x : Int32) : Bool := !decide (x = 0) && isW x (-15) 15
theorem isF_nI {g : Nat → Int32} {k : Nat} (h : k < 200) : isF g (nI k) = !decide (g 7 ≤ nI k) := by simp [isF, isI_nI h]
theorem isF_t {g : Nat → Int32} {k : Nat} (h : k < 200) (q : isF g (nI k) = true) : ¬ g 7 ≤ nI k := by
  rw [isF_nI h] at q
  exact fun z => by rw [decide_eq_true z] at q; exact absurd q (by decide)
theorem isF_f {g : Nat → Int32} {k : Nat} (h : k < 200) (q : isF g (nI k) = false) : g 7 ≤ nI k := by
  rw [isF_nI h] at q
  exact Classical.byContradiction fun z => by rw [decide_eq_false z] at q; exact absurd q (by decide)
def hdB (g : Nat → Int32) (f : Nat → Nat → Int32) (x : Int32) (i : Nat) : Bool := rsB g f i && isW x (nI i) (nI (eoR g f (199 - i) i))
def fdB (g : Nat → Int32) (v n : Int32) (i : Nat) : Bool := decide (volD g (nI i) = v) && decide (numD g (nI i) = n)
theorem lt_pred {B i : Nat} (hB : B ≤ 200) (hi : i < 200) : nI B - 1 < nI i ↔ B ≤ i := by
  have e9 : (1 : Int32).toInt = 1 := rfl
  have e1 : (nI B - 1).toInt = B - 1 := by
    have e := nI_toInt (n := B) (by omega)
    rw [i_sub (by omega) (by omega)]; omega
  rw [Int32.lt_iff_toInt_lt, e1, nI_toInt (by omega)]
  omega
theorem ge_200 {i : Nat} (h : (200 : Int32) ≤ nI i) (hi : i ≤ 200) : i = 200 := by
  have := (nI_leI (a := 200) (b := i) (by decide) (by omega)).mp h; omega
theorem nge_200 {i : Nat} (h : ¬ (200 : Int32) ≤ nI i) (hi : i ≤ 200) : i < 200 := by
  rcases Nat.lt_or_ge i 200 with q | q
  · exact q
  · exact absurd ((nI_leI (a := 200) (b := i) (by decide) (by omega)).mpr q) h
theorem le_nI {a b : Nat} (ha : a < 1000) (hb : b < 1000) (h : nI a ≤ nI b) : a ≤ b := (nI_leI (by omega) (by omega)).mp h
theorem nle_nI {a b : Nat} (ha : a < 1000) (hb : b < 1000) (h : ¬ nI a ≤ nI b) : b < a := by
  rcases Nat.lt_or_ge b a with q | q
  · exact q
  · exact absurd ((nI_leI (by omega) (by omega)).mpr q) h
theorem lt_nI {a b : Nat} (ha : a < 1000) (hb : b < 1000) (h : nI a < nI b) : a < b := (nI_ltI (by omega) (by omega)).mp h
theorem nlt_nI {a b : Nat} (ha : a < 1000) (hb : b < 1000) (h : ¬ nI a < nI b) : b ≤ a := by
  rcases Nat.lt_or_ge a b with q | q
  · exact absurd ((nI_ltI (by omega) (by omega)).mpr q) h
  · exact q
theorem bar_same {g : Nat → Int32} {K d e : Nat} (hK : g 4 = nI K) (hk : K ≤ 4094) (hd : d < 2 ^ 29) (h1 : d ≤ e) (h2 : e < (d / 30 + 1) * 30) : bar g (nI e) = bar g (nI d) := by
  rw [bar_nI hK hk (by omega), bar_nI hK hk (by omega), show e / 30 = d / 30 by omega]
theorem bar_t {g : Nat → Int32} {K d : Nat} (hK : g 4 = nI K) (hk : K ≤ 4094) (hd : d < 2 ^ 29) (h : bar g (nI d) = true) : K / 2 ^ (d / 30 % 12) % 2 = 1 := by
  rw [bar_nI hK hk (by omega)] at h
  exact of_decide_eq_true h
/-- twelve months in a row can't all be barred -/
theorem bar_12 {K q : Nat} (hk : K ≤ 4094) (h : ∀ j, j < 12 → K / 2 ^ ((q + j) % 12) % 2 = 1) : False := by
  obtain ⟨m, hm, h0⟩ := num_free K (by omega)
  have h1 := h ((m + 12 - q % 12) % 12) (by omega)
  rw [show (q + (m + 12 - q % 12) % 12) % 12 = m by omega, h0] at h1
  exact absurd h1 (by decide)
theorem dv30 {d : Nat} (h : d < 2 ^ 29) : nI d / 30 = nI (d / 30) := by rw [i_30]; exact pk_div (by omega) (by decide) (by decide)
def itF : Nat → (Nat → Int32) × (Nat → Nat → Int32) → (Nat → Int32) × (Nat → Nat → Int32)
  | 0, s => s
  | n + 1, s => itF n (foreG s.1, foreF s.1 s.2)
def lkF : Nat → (Nat → Int32) × (Nat → Nat → Int32) → (Nat → Int32) × (Nat → Nat → Int32)
  | 0, s => s
  | n + 1, s => if s.1 0 < nd s.1 s.2 then s else lkF n (foreG s.1, foreF s.1 s.2)
def tkU (h : Nat → Int32) (F i : Nat) : Nat → Int32 := fun k => if F ≤ k ∧ k < i then (if k = F then 1 else 2) else h k
theorem tkU_0 (h : Nat → Int32) (F : Nat) : h = tkU h F F := by
  funext k; unfold tkU; rw [if_neg (by omega)]
theorem tkU_s (h : Nat → Int32) {F i : Nat} (hi : F ≤ i) (v : Int32) (hv : v = if i = F then 1 else 2) : upd (tkU h F i) i v = tkU h F (i + 1) := by
  funext k; unfold upd tkU
  by_cases q : k = i
  · subst q; rw [if_pos rfl, if_pos (by omega)]; exact hv
  · rw [if_neg q]
    by_cases q2 : F ≤ k ∧ k < i
    · rw [if_pos q2, if_pos (show F ≤ k ∧ k < i + 1 by omega)]
    · rw [if_neg q2, if_neg (by omega)]
def foD (g : Nat → Int32) (f : Nat → Nat → Int32) (i : Nat) : Bool := decide ((g 9 + 1).toNatClampNeg ≤ i) && allR (foB f) (g 9 + 1).toNatClampNeg (i - (g 9 + 1).toNatClampNeg)
def rowD (g : Nat → Int32) (f : Nat → Nat → Int32) (i : Nat) : Int32 := if g 0 - f 0 i = g 10 ∧ foD g f i = true then g 11 + 1 else 1
def cntG (g : Nat → Int32) (t r : Int32) (i : Nat) : Nat → Int32 := if r < 3 ∨ okS t = false then upd (upd (upd g 11 r) 10 t) 9 (nI i) else upd (upd (upd (upd g 11 0) 10 t) 9 (nI i)) 8 (g 8 + t)
theorem inv_B {c : Nat} {g : Nat → Int32} {f : Nat → Nat → Int32} (h : Inv c g f) : ∃ B, g 9 = nI B - 1 ∧ B ≤ 200 ∧ (B = 0 → g 11 = 0) ∧ g 9 + 1 = nI B ∧ (g 9 + 1).toNatClampNeg = B := by
  obtain ⟨B, h1, h2, h3⟩ := h.2.2.2.2.2.2.1
  have e : g 9 + 1 = nI B := by rw [h1]; exact Int32.sub_add_cancel _ _
  exact ⟨B, h1, h2, h3, e, by rw [e]; exact nI_clamp (by omega)⟩
theorem lkF_step (n : Nat) (g : Nat → Int32) (f : Nat → Nat → Int32) : lkF (n + 1) (g, f) = if g 0 < nd g f then (g, f) else lkF n (foreG g, foreF g f) := rfl
theorem itF_step (n : Nat) (g : Nat → Int32) (f : Nat → Nat → Int32) : itF (n + 1) (g, f) = itF n (foreG g, foreF g f) := rfl
