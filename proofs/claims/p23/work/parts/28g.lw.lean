/-! what stays between two steps of the law -/
def LWs (n : Nat) (x : SD) (tt : Nat → Int32) (gg : Nat → Int64) : Prop :=
  LI n x ∧ (∃ D, x.1 0 = nI D ∧ D ≤ 60 * n) ∧ (∃ N, x.1 7 = nI N ∧ 1 ≤ N ∧ N ≤ 200 ∧ (∀ k, k + 1 < N → x.2.1 0 k < x.2.1 0 (k + 1)) ∧ (∀ k, N ≤ k → x.2.1 1 k = 0 ∧ x.2.1 2 k = 0)) ∧ x.2.1 0 0 = 0 ∧ (∀ k, k < 200 → 0 ≤ x.2.1 1 k ∧ x.2.1 1 k ≤ 3) ∧ (∀ k, k < 200 → 0 ≤ x.2.1 2 k ∧ x.2.1 2 k ≤ 3) ∧ 0 < x.1 6 ∧ TR x.2.1 x.2.2.1 tt ∧ (∀ k, k < 200 → isT gg k = thB (x.2.1 4) k)
section Lw
variable {n : Nat} {g : Nat → Int32} {f : Nat → Nat → Int32} {cd : Nat → Int32} {tc : Int32} {tt : Nat → Int32} {gg : Nat → Int64}
theorem LW_id {x : SD} (h : LWs n x tt gg) : LWs (n + 1) x tt gg := by
  obtain ⟨h1, ⟨D, d1, d2⟩, h3, h4, h5, h6, h7, h8, h9⟩ := h
  exact ⟨LI_mono h1 (by omega), ⟨D, d1, by omega⟩, h3, h4, h5, h6, h7, h8, h9⟩
theorem LW_DK (h : LWs n (g, f, cd, tc) tt gg) : DK g f := by
  obtain ⟨-, -, ⟨N, n1, n2, n3, n4, -⟩, h4, h5, h6, -⟩ := h
  exact ⟨N, n1, n2, n3, h4, n4, h5, h6⟩
theorem i_lt {a b : Nat} (h : a < b) (hb : b < 2 ^ 31) : nI a < nI b := nI_lt h hb
theorem LW_sk {k N : Nat} (h : LWs n (g, f, cd, tc) tt gg) (hN : g 7 = nI N) (hN2 : N ≤ 200) (hk : k < N) : LWs (n + 1) (g, up2 f 1 (upd (f 1) k 3), cd, tc) tt gg := by
  obtain ⟨h1, ⟨D, d1, d2⟩, ⟨M, n1, n2, n3, n4, n5⟩, h4, h5, h6, h7, h8, h9⟩ := h
  have eM : M = N := (nI_eq (by omega) (by omega)).mp (n1.symm.trans hN)
  subst eM
  refine ⟨LI_mono (LI_sk h1) (by omega), ⟨D, d1, by omega⟩, ⟨M, n1, n2, n3, n4, fun j hj => ⟨?_, (n5 j hj).2⟩⟩, h4, fun j hj => ?_, h6, h7, h8, h9⟩
  · show upd (f 1) k 3 j = 0
    rw [pk_un (by omega)]; exact (n5 j hj).1
  · show 0 ≤ upd (f 1) k 3 j ∧ upd (f 1) k 3 j ≤ 3
    by_cases q : j = k
    · subst q; rw [pk_us]; decide
    · rw [pk_un q]; exact h5 j hj
theorem LW_sc {p q : Int32} (h : LWs n (g, f, cd, tc) tt gg) (hq : 0 < q) : LWs (n + 1) (upd (upd g 5 p) 6 q, f, cd, tc) tt gg := by
  obtain ⟨h1, ⟨D, d1, d2⟩, h3, h4, h5, h6, h7, h8, h9⟩ := h
  exact ⟨LI_mono (c := n) ⟨inv_SC h1.1, h1.2⟩ (by omega), ⟨D, d1, by omega⟩, h3, h4, h5, h6, hq, h8, h9⟩
theorem LW_rd {N : Nat} (h : LWs n (g, f, cd, tc) tt gg) (hN : g 7 = nI N) (hN2 : N ≤ 200) : LWs (n + 1) (g, rdF g f 200, rdc g f cd 200, tc) (ttR g f tt (min N 60)) gg := by
  obtain ⟨h1, ⟨D, d1, d2⟩, ⟨M, n1, n2, n3, n4, n5⟩, h4, h5, h6, h7, h8, h9⟩ := h
  have eM : M = N := (nI_eq (by omega) (by omega)).mp (n1.symm.trans hN)
  subst eM
  refine ⟨LI_mono (LI_rd h1) (by omega), ⟨D, d1, by omega⟩, ⟨M, n1, n2, n3, n4, fun j hj => ?_⟩, h4, fun j hj => ?_, fun j hj => ?_, h7, TR_rd n1 n3 h1.1.2.2.2.2.1 h6 h8, h9⟩
  · have ho : j < 200 → rdB g f j = false := fun hj2 => rdB_out (by rw [hN]; exact nI_le hj (by omega))
    refine ⟨?_, ?_⟩
    · show rd1 g f 200 j = 0
      unfold rd1; rw [if_neg (fun y => by rw [ho y.1] at y; exact absurd y.2.1 (by decide))]; exact (n5 j hj).1
    · show rd2 g f 200 j = 0
      unfold rd2; rw [if_neg (fun y => by rw [ho y.1] at y; exact absurd y.2.1 (by decide))]; exact (n5 j hj).2
  · show 0 ≤ rd1 g f 200 j ∧ rd1 g f 200 j ≤ 3
    unfold rd1; split
    · decide
    · exact h5 j hj
  · show 0 ≤ rd2 g f 200 j ∧ rd2 g f 200 j ≤ 3
    unfold rd2; split
    · rename_i y
      have hc := y.2.2
      unfold clB at hc
      have h0 : ¬ 3 ≤ f 2 j := by simpa using hc
      obtain ⟨e, he, ee⟩ := nI_of (Int32.not_lt.mpr (h6 j hj).1)
      have h3 := (h6 j hj).2
      have ee : f 2 j = nI e := ee
      have h3 : f 2 j ≤ 3 := h3
      rw [ee] at h3 h0 ⊢
      have q1 := (nI_leI (b := 3) he (by decide)).mp h3
      have q2 : ¬ 3 ≤ e := fun q => h0 (nI_le (a := 3) q he)
      rw [nI_1]
      exact ⟨nI_pos' (by omega), nI_le (b := 3) (by omega) (by decide)⟩
    · exact h6 j hj
theorem LW_gv {i j : Nat} {gq : Nat → Int64} (h : LWs n (g, f, cd, tc) tt gg) (hb : ∀ k, k < 200 → isT gq k = thB (gvU (f 4) i j) k) : LWs (n + 1) (g, up2 f 4 (gvU (f 4) i j), cd, nI (cnt (thB (gvU (f 4) i j)) 200)) tt gq := by
  obtain ⟨h1, ⟨D, d1, d2⟩, h3, h4, h5, h6, h7, h8, h9⟩ := h
  exact ⟨LI_mono (LI_gv h1) (by omega), ⟨D, d1, by omega⟩, h3, h4, h5, h6, h7, h8, hb⟩
theorem nxL_lt {b s : Int32} (hp : PT g) (hb : DY b) (hs : SH s) : b < nxL g b s := by
  obtain ⟨⟨P, p1, p2, p3⟩, -⟩ := hp
  obtain ⟨d, d1, d2⟩ := hb
  have h := d0_all (g := upd g 8 s) (c := 512) d1 d2 p1 p2 p3 (Nat.le_refl _) ⟨by have := hs.1; show _ ≤ s.toInt; omega, by have := hs.2; show s.toInt ≤ _; omega⟩
  have h4 := h.2.2
  have h1 := nxF_le g 400 (d0I (upd g 8 s) b).toNat
  have e : b.toInt = d := by rw [d1]; exact nI_toInt (by omega)
  have h2 : (d : Int) + 1 ≤ d0I (upd g 8 s) b := by unfold d0I; rw [e]; exact Int.le_max_right _ _
  have h5 : nxL g b s = nI (nxF g 400 (d0I (upd g 8 s) b).toNat) := rfl
  rw [h5]
  generalize nxF g 400 (d0I (upd g 8 s) b).toNat = z at h1 ⊢
  rw [d1]
  exact nI_lt (by omega) (by omega)
/-- more days, each behind the one before -/
theorem rise {F : Nat → Nat → Int32} {N M : Nat} {w : Nat → Int32} (hp : PT g) (hw : ∀ k, SH (w k)) (hsame : ∀ k, k < N → F 0 k = f 0 k) (hup : ∀ k, k + 1 < N → f 0 k < f 0 (k + 1)) (hd : ∀ k, k < M → DY (F 0 k)) (hn : ∀ k, N ≤ k → k < M → F 0 k = nxL g (F 0 (k - 1)) (w k)) : ∀ k, k + 1 < M → F 0 k < F 0 (k + 1) := by
  intro k hk
  rcases Nat.lt_or_ge (k + 1) N with q | q
  · rw [hsame k (by omega), hsame (k + 1) q]; exact hup k q
  · rw [hn (k + 1) q hk, Nat.add_sub_cancel]
    exact nxL_lt hp (hd k (by omega)) (hw _)
theorem LW_ci {i b : Nat} (hn : n < 512) (h : LWs n (g, f, cd, tc) tt gg) (hib : i + b ≤ 57) : LWs (n + 1) ((ciS g f i b).1, (ciS g f i b).2, cd, tc) tt gg := by
  obtain ⟨h1, ⟨D, d1, d2⟩, ⟨M, n1, n2, n3, n4, n5⟩, h4, h5, h6, h7, h8, h9⟩ := h
  have hI : Inv n g f := h1.1
  have hL := LI_ci (i := i) (j := b) hn h1 (by omega)
  obtain ⟨N1, m9, r9, t9, c8, hN1, hG7, hT2, hGq, hF1, hF0, hday, et, er, ec8, hG8, hG9, hG10, hG11, hend, hsh8⟩ := ci_all hn hI n1 n3 (show i + b < 200 by omega)
  have hN1N : M ≤ N1 ∧ i + b < N1 := by rw [hN1]; split <;> omega
  have hr2 := ciS_row (q := 2) (by decide) (by decide) g f i b
  have hr4 := ciS_row (q := 4) (by decide) (by decide) g f i b
  have hs8 := inv_SH hI (by omega)
  generalize ciS g f i b = z at hL hG7 hGq hF1 hF0 hday et er hG8 hG9 hG10 hG11 hend hr2 hr4 ⊢
  have hIG : Inv (n + 1) z.1 z.2 := hL.1
  refine ⟨hL, ⟨D, (hGq 0 (by decide)).trans d1, by omega⟩, ⟨N1 + m9, hG7, by omega, hT2, ?_, fun k hk => ⟨?_, ?_⟩⟩, ?_, fun k hk => ?_, fun k hk => ?_, ?_, ?_, fun k hk => ?_⟩
  · exact rise (g := g) (N := M) (w := fun k => if k = M ∧ M ≤ i + b then g 8 else if k = N1 then c8 else 0) (inv_PT hI) (fun k => by show SH (if _ then _ else _); split; exact hs8; split; exact hsh8; exact SH_0) hF0 n4 (fun k hk => inv_DY hIG hG7 hT2 hk) (fun k hk hk2 => (hday k hk hk2).1)
  · show z.2 1 k = 0
    rw [hF1]; unfold tkU; rw [if_neg (by omega)]; exact (n5 k (by omega)).1
  · show z.2 2 k = 0
    rw [hr2]; exact (n5 k (by omega)).2
  · show z.2 0 0 = 0
    rw [hF0 0 (by omega)]; exact h4
  · show 0 ≤ z.2 1 k ∧ z.2 1 k ≤ 3
    rw [hF1]; exact tk_03 h5 k hk
  · show 0 ≤ z.2 2 k ∧ z.2 2 k ≤ 3
    rw [hr2]; exact h6 k hk
  · show 0 < z.1 6
    rw [hGq 6 (by decide)]; exact h7
  · intro k hk
    show (tt k = 0 ∧ z.2 2 k = 0) ∨ (tt k = cd k + 1 ∧ ¬ tt k = 0 ∧ ¬ z.2 2 k = 0)
    rw [hr2]; exact h8 k hk
  · show isT gg k = thB (z.2 4) k
    rw [hr4]; exact h9 k hk
/-- more is foretold -/
theorem LW_lk (hn : n ≤ 512) (h : LWs n (g, f, cd, tc) tt gg) : LWs n ((lkS g f).1, (lkS g f).2, cd, tc) tt gg := by
  obtain ⟨h1, ⟨D, d1, d2⟩, ⟨M, n1, n2, n3, n4, n5⟩, h4, h5, h6, h7, h8, h9⟩ := h
  have hI : Inv n g f := h1.1
  have hL := LI_lk hn h1
  obtain ⟨⟨T, e7, -, hMT, hT2, hp, hs1, hs2, hdy, hday, -⟩, hGq, -, -, -, hF0⟩ := AF_lk hn hI n1 n3 (fun k hk => (n5 k hk).2)
  have hr1 := lkS_row (q := 1) (by decide) g f
  have hr2 := lkS_row (q := 2) (by decide) g f
  have hr4 := lkS_row (q := 4) (by decide) g f
  refine ⟨hL, ⟨D, (hGq 0 (by decide) (by decide)).trans d1, d2⟩, ⟨T, e7, by omega, hT2, ?_, fun k hk => ⟨?_, ?_⟩⟩, ?_, fun k hk => ?_, fun k hk => ?_, ?_, ?_, fun k hk => ?_⟩
  · exact rise (g := (lkS g f).1) (N := M) (w := fun k => if k = M then g 8 else 0) hp (fun k => by show SH (if _ then _ else _); split; exact hs1; exact SH_0) hF0 n4 hdy (fun k hk hk2 => (hday k hk hk2).1)
  · show (lkS g f).2 1 k = 0
    rw [hr1]; exact (n5 k (by omega)).1
  · show (lkS g f).2 2 k = 0
    rw [hr2]; exact (n5 k (by omega)).2
  · show (lkS g f).2 0 0 = 0
    rw [hF0 0 (by omega)]; exact h4
  · show 0 ≤ (lkS g f).2 1 k ∧ (lkS g f).2 1 k ≤ 3
    rw [hr1]; exact h5 k hk
  · show 0 ≤ (lkS g f).2 2 k ∧ (lkS g f).2 2 k ≤ 3
    rw [hr2]; exact h6 k hk
  · show 0 < (lkS g f).1 6
    rw [hGq 6 (by decide) (by decide)]; exact h7
  · intro k hk
    show (tt k = 0 ∧ (lkS g f).2 2 k = 0) ∨ (tt k = cd k + 1 ∧ ¬ tt k = 0 ∧ ¬ (lkS g f).2 2 k = 0)
    rw [hr2]; exact h8 k hk
  · show isT gg k = thB ((lkS g f).2 4) k
    rw [hr4]; exact h9 k hk
theorem LW_sp {p0 p1 p2 p3 : Int32} (h : LWs n (g, f, cd, tc) tt gg) (ho : okSP p0 p1 p3 = true) (h2 : p2 = 0 ∨ p2 = 1) : LWs (n + 1) (gSP g p0 p1 p2 p3, f, cd, tc) tt gg := by
  obtain ⟨h1, ⟨D, d1, d2⟩, h3, h4, h5, h6, h7, h8, h9⟩ := h
  exact ⟨LI_mono (c := n) ⟨inv_SP h1.1 ho h2, h1.2⟩ (by omega), ⟨D, d1, by omega⟩, h3, h4, h5, h6, h7, h8, h9⟩
theorem ad_ok {P : Nat} (hn : n < 60) (hD : ∃ D, g 0 = nI D ∧ D ≤ 60 * n) (hP1 : 1 ≤ P) (hP : P ≤ 60) : isW (nI P) 1 400 = true ∧ ¬ 7200 < g 0 + nI P ∧ ∃ D, g 0 + nI P = nI D ∧ D ≤ 60 * (n + 1) := by
  obtain ⟨D, d1, d2⟩ := hD
  have e : g 0 + nI P = nI (D + P) := by rw [d1]; exact nI_add _ _
  refine ⟨?_, ?_, D + P, e, by omega⟩
  · have q1 : ¬ nI P < 1 := fun q => by have := (nI_ltI (a := P) (b := 1) (by omega) (by decide)).mp q; omega
    have q2 : ¬ (400 : Int32) < nI P := fun q => by have := (nI_ltI (a := 400) (b := P) (by decide) (by omega)).mp q; omega
    unfold isW; rw [decide_eq_false q1, decide_eq_false q2]; rfl
  · rw [e]
    intro q
    have := (nI_ltI (a := 7200) (b := D + P) (by decide) (by omega)).mp q
    omega
theorem LW_ad {p : Int32} (h : LWs n (g, f, cd, tc) tt gg) (h1' : isW p 1 400 = true) (h2' : ¬ 7200 < g 0 + p) (hD' : ∃ D, g 0 + p = nI D ∧ D ≤ 60 * (n + 1)) : LWs (n + 1) (upd g 0 (g 0 + p), f, cd, tc) tt gg := by
  obtain ⟨h1, -, h3, h4, h5, h6, h7, h8, h9⟩ := h
  exact ⟨LI_mono (c := n) ⟨inv_A h1.1 h1' h2', h1.2⟩ (by omega), hD', h3, h4, h5, h6, h7, h8, h9⟩
end Lw
theorem LW_0 : LWs 0 (g0, f0, (fun _ => 0), 0) (fun _ => 0) (fun _ => 0) :=
  ⟨LI_0, ⟨0, nI_0.symm, by omega⟩, ⟨1, rfl, by omega, by omega, fun k hk => by omega, fun _ _ => ⟨rfl, rfl⟩⟩, rfl, fun _ _ => show (0 : Int32) ≤ 0 ∧ (0 : Int32) ≤ 3 from by decide, fun _ _ => show (0 : Int32) ≤ 0 ∧ (0 : Int32) ≤ 3 from by decide, by decide, fun _ _ => Or.inl ⟨rfl, rfl⟩, fun k hk => by
    show b6 0 (k % 50) = _
    rw [b6_z]; rfl⟩
/-! the law's row of numbers goes with the desk -/
theorem cc_up {g g' : Nat → Int32} {h : Nat → Int32} (h10 : ∀ k, 10 ≤ k → h k = 0) (e : ∀ k, k < 10 → h k = ccG g' k) : h = ccG g' := by
  funext k
  rcases Nat.lt_or_ge k 10 with q | q
  · exact e k q
  · rw [h10 k q]
    obtain ⟨j, rfl⟩ : ∃ j, k = j + 10 := ⟨k - 10, by omega⟩
    rfl
theorem cc_10 (g : Nat → Int32) {k : Nat} (h : 10 ≤ k) : ccG g k = 0 := by
  obtain ⟨j, rfl⟩ : ∃ j, k = j + 10 := ⟨k - 10, by omega⟩
  rfl
theorem cc_sc (g : Nat → Int32) (p q : Int32) : upd (upd (ccG g) 5 p) 6 q = ccG (upd (upd g 5 p) 6 q) := by
  refine cc_up (g := g) (fun k hk => by rw [pk_un (by omega), pk_un (by omega), cc_10 g hk]) (fun k hk => ?_)
  rcases (show k = 0 ∨ k = 1 ∨ k = 2 ∨ k = 3 ∨ k = 4 ∨ k = 5 ∨ k = 6 ∨ k = 7 ∨ k = 8 ∨ k = 9 by omega) with r | r | r | r | r | r | r | r | r | r <;> subst r <;> rfl
theorem cc_lk {g g' G : Nat → Int32} {h : Nat → Int32} (hG : ∀ q, q ≠ 7 → q ≠ 8 → G q = g' q) (h10 : ∀ k, 10 ≤ k → h k = 0) (e : ∀ k, k < 10 → h k = ccG g' k) : h = ccG G := by
  refine cc_up (g := g) h10 (fun k hk => ?_)
  rw [e k hk]
  rcases (show k = 0 ∨ k = 1 ∨ k = 2 ∨ k = 3 ∨ k = 4 ∨ k = 5 ∨ k = 6 ∨ k = 7 ∨ k = 8 ∨ k = 9 by omega) with r | r | r | r | r | r | r | r | r | r <;> subst r <;> exact (hG _ (by decide) (by decide)).symm
theorem cc_sp {g G : Nat → Int32} {p0 p1 p2 p3 : Int32} (hG : ∀ q, q ≠ 7 → q ≠ 8 → G q = gSP g p0 p1 p2 p3 q) : upd (upd (upd (upd (ccG g) 1 p0) 2 p1) 3 p2) 4 p3 = ccG G := by
  refine cc_lk (g := g) hG (fun k hk => by rw [pk_un (by omega), pk_un (by omega), pk_un (by omega), pk_un (by omega), cc_10 g hk]) (fun k hk => ?_)
  rcases (show k = 0 ∨ k = 1 ∨ k = 2 ∨ k = 3 ∨ k = 4 ∨ k = 5 ∨ k = 6 ∨ k = 7 ∨ k = 8 ∨ k = 9 by omega) with r | r | r | r | r | r | r | r | r | r <;> subst r <;> rfl
theorem cc_ad {g G : Nat → Int32} {p : Int32} (hG : ∀ q, q ≠ 7 → q ≠ 8 → G q = upd g 0 p q) : upd (ccG g) 0 p = ccG G := by
  refine cc_lk (g := g) hG (fun k hk => by rw [pk_un (by omega), cc_10 g hk]) (fun k hk => ?_)
  rcases (show k = 0 ∨ k = 1 ∨ k = 2 ∨ k = 3 ∨ k = 4 ∨ k = 5 ∨ k = 6 ∨ k = 7 ∨ k = 8 ∨ k = 9 by omega) with r | r | r | r | r | r | r | r | r | r <;> subst r <;> rfl
/-! the row of bits: one more is there -/
theorem isT_or {gq : Nat → Int64} {k j : Nat} {v : Int64} (hk : k < 200) (hj : j < 200) : isT (vp_updL gq (k / 50) (gq (k / 50) ||| v)) j = (isT gq j || (decide (j / 50 = k / 50) && b6 v (j % 50))) := by
  unfold isT vp_updL
  by_cases q : j / 50 = k / 50
  · rw [if_pos q, b6_or, q, decide_eq_true rfl, Bool.true_and]
  · rw [if_neg q, decide_eq_false q, Bool.false_and, Bool.or_false]
theorem isT_1 {gq : Nat → Int64} {k j : Nat} (hk : k < 200) (hj : j < 200) : isT (vp_updL gq (k / 50) (gq (k / 50) ||| ((1 : Int64) <<< ((nI (k % 50)).toInt64 &&& 63)))) j = (isT gq j || decide (j = k)) := by
  rw [isT_or hk hj, b6_one (k % 50) (by omega) (j % 50) (by omega)]
  congr 1
  by_cases q : j = k
  · subst q; simp
  · rw [decide_eq_false q]
    by_cases y : j / 50 = k / 50
    · rw [decide_eq_false (show ¬ j % 50 = k % 50 by omega), Bool.and_false]
    · rw [decide_eq_false y, Bool.false_and]
theorem isT_0 {gq : Nat → Int64} {k j : Nat} (hk : k < 200) (hj : j < 200) : isT (vp_updL gq (k / 50) (gq (k / 50) ||| 0)) j = isT gq j := by
  rw [isT_or hk hj, b6_z, Bool.and_false, Bool.or_false]
theorem gv_th {h : Nat → Int32} {i j k : Nat} : thB (gvU h i j) k = (thB h k || decide (i ≤ k ∧ k ≤ j)) := by
  unfold thB gvU
  by_cases q : i ≤ k ∧ k ≤ j
  · rw [if_pos q, decide_eq_true q, Bool.or_true]; rfl
  · rw [if_neg q, decide_eq_false q, Bool.or_false]
theorem gv_in {h : Nat → Int32} {gq : Nat → Int64} {F L k j : Nat} (hg : ∀ j, j < 200 → isT gq j = if j < k then thB (gvU h F L) j else thB h j) (hk : k < 200) (hj : j < 200) (hF : F ≤ k ∧ k ≤ L) : isT (vp_updL gq (k / 50) (gq (k / 50) ||| ((1 : Int64) <<< ((nI (k % 50)).toInt64 &&& 63)))) j = if j < k + 1 then thB (gvU h F L) j else thB h j := by
  rw [isT_1 hk hj, hg j hj]
  by_cases q : j = k
  · subst q; rw [if_neg (Nat.lt_irrefl j), if_pos (Nat.lt_succ_self j), gv_th, decide_eq_true hF, decide_eq_true rfl]
  · rw [decide_eq_false q, Bool.or_false]
    by_cases y : j < k
    · rw [if_pos y, if_pos (by omega)]
    · rw [if_neg y, if_neg (by omega)]
theorem gv_out {h : Nat → Int32} {gq : Nat → Int64} {F L k j : Nat} (hg : ∀ j, j < 200 → isT gq j = if j < k then thB (gvU h F L) j else thB h j) (hk : k < 200) (hj : j < 200) (hF : ¬ (F ≤ k ∧ k ≤ L)) : isT (vp_updL gq (k / 50) (gq (k / 50) ||| 0)) j = if j < k + 1 then thB (gvU h F L) j else thB h j := by
  rw [isT_0 hk hj, hg j hj]
  by_cases q : j = k
  · subst q; rw [if_neg (Nat.lt_irrefl j), if_pos (Nat.lt_succ_self j), gv_th, decide_eq_false hF, Bool.or_false]
  · by_cases y : j < k
    · rw [if_pos y, if_pos (by omega)]
    · rw [if_neg y, if_neg (by omega)]
theorem ok_SC {p q : Nat} (h : p ≤ 100) (h1 : 1 ≤ q) (h2 : q ≤ 100) : okSC (nI p) (nI q) = true := by
  have q1 : ¬ nI p < 0 := nI_pos (by omega)
  have q2 : ¬ (100 : Int32) < nI p := fun z => by have := (nI_ltI (a := 100) (b := p) (by decide) (by omega)).mp z; omega
  have q3 : ¬ nI q < 1 := fun z => by have := (nI_ltI (a := q) (b := 1) (by omega) (by decide)).mp z; omega
  have q4 : ¬ (100 : Int32) < nI q := fun z => by have := (nI_ltI (a := 100) (b := q) (by decide) (by omega)).mp z; omega
  unfold okSC isW; rw [decide_eq_false q1, decide_eq_false q2, decide_eq_false q3, decide_eq_false q4]; rfl
theorem ok_SP {p q k : Nat} (h1 : 1 ≤ p) (h2 : p ≤ 90) (h3 : 1 ≤ q) (h4 : q ≤ 20) (h5 : k ≤ 4094) : okSP (nI p) (nI q) (nI k) = true := by
  have q1 : ¬ nI p < 1 := fun z => by have := (nI_ltI (a := p) (b := 1) (by omega) (by decide)).mp z; omega
  have q2 : ¬ (90 : Int32) < nI p := fun z => by have := (nI_ltI (a := 90) (b := p) (by decide) (by omega)).mp z; omega
  have q3 : ¬ nI q < 1 := fun z => by have := (nI_ltI (a := q) (b := 1) (by omega) (by decide)).mp z; omega
  have q4 : ¬ (20 : Int32) < nI q := fun z => by have := (nI_ltI (a := 20) (b := q) (by decide) (by omega)).mp z; omega
  have q5 : ¬ nI k < 0 := nI_pos (by omega)
  have q6 : ¬ (4094 : Int32) < nI k := fun z => by have := (nI_ltI (a := 4094) (b := k) (by decide) (by omega)).mp z; omega
  unfold okSP isW; rw [decide_eq_false q1, decide_eq_false q2, decide_eq_false q3, decide_eq_false q4, decide_eq_false q5, decide_eq_false q6]; rfl
theorem sk_val {g : Nat → Int32} {f : Nat → Nat → Int32} {k N : Nat} (hN : g 7 = nI N) (hN2 : N ≤ 200) (hk : k ≤ N) : skT g f (nI k) = if k < N then (if f 1 k = 0 then 0 else 2) else 1 := by
  unfold skT
  by_cases h : k < N
  · rw [if_neg (by rw [isF_lt hN h hN2]; decide), if_pos h, nI_clamp (by omega)]
  · have e : isF g (nI k) = false := by
      unfold isF; rw [decide_eq_true (show g 7 ≤ nI k by rw [hN]; exact nI_le (by omega) (by omega))]; simp
    rw [if_pos e, if_neg h]
theorem st_m1 {x : Int32} (h : 0 ≤ x ∧ x ≤ 3) : ¬ x = -1 := fun q => by rw [q] at h; exact absurd h.1 (by decide)
theorem b01 (k : Nat) : nI (k % 2) = 0 ∨ nI (k % 2) = 1 := by
  rcases (show k % 2 = 0 ∨ k % 2 = 1 by omega) with h | h <;> rw [h]
  · exact Or.inl rfl
  · exact Or.inr rfl
