def bI (b : Bool) : Int32 := if b = true then 1 else 0
theorem bI0 {b : Bool} (h : bI b = 0) : b = false := by cases b <;> first | rfl | (exact absurd h (by decide))
theorem bIn {b : Bool} (h : ¬ bI b = 0) : b = true := by cases b <;> first | rfl | (exact absurd rfl h)
theorem bIr (b : Bool) : narrow .boolean (.int (bI b)) = .int (bI b) := by cases b <;> rfl
theorem bI_t : bI true = 1 := rfl
theorem bI_f : bI false = 0 := rfl
def isW (v lo hi : Int32) : Bool := !decide (v < lo) && !decide (hi < v)
def isI (i : Int32) : Bool := !decide (i < 0) && !decide (200 ≤ i)
def isF (g : Nat → Int32) (i : Int32) : Bool := isI i && !decide (g 7 ≤ i)
def barV (g : Nat → Int32) (d : Int32) : Int32 := (g 4 >>> ((d / 30 - d / 30 / 12 * 12) &&& 31)) &&& 1
def bar (g : Nat → Int32) (d : Int32) : Bool := !decide (barV g d = 0)
def hereI (g : Nat → Int32) (f : Nat → Nat → Int32) (i : Int32) : Bool := isF g i && (decide (f 1 i.toNatClampNeg = 1) || decide (f 1 i.toNatClampNeg = 2))
def hereB (g : Nat → Int32) (f : Nat → Nat → Int32) (k : Nat) : Bool := !decide (g 7 ≤ nI k) && (decide (f 1 k = 1) || decide (f 1 k = 2))
def lateB (g : Nat → Int32) (f : Nat → Nat → Int32) (k : Nat) : Bool := !decide (g 7 ≤ nI k) && decide (f 1 k = 0) && !decide (g 0 - f 0 k ≤ g 5)
def dueB (g : Nat → Int32) (f : Nat → Nat → Int32) (cd : Nat → Int32) (k : Nat) : Bool := decide (f 2 k = 0) || !decide (g 0 - cd k < g 6)
def rsB (g : Nat → Int32) (f : Nat → Nat → Int32) (k : Nat) : Bool := hereB g f k && !hereI g f (nI k - 1)
def cnt (p : Nat → Bool) : Nat → Nat
  | 0 => 0
  | n + 1 => cnt p n + (if p n = true then 1 else 0)
theorem cnt_t {p : Nat → Bool} {n : Nat} (h : p n = true) : cnt p (n + 1) = cnt p n + 1 := by simp [cnt, h]
theorem cnt_f {p : Nat → Bool} {n : Nat} (h : p n = false) : cnt p (n + 1) = cnt p n := by simp [cnt, h]
theorem cnt_le (p : Nat → Bool) : ∀ n, cnt p n ≤ n
  | 0 => Nat.le_refl _
  | n + 1 => by have := cnt_le p n; unfold cnt; split <;> omega
/-- the place of the k-th that is so, from i on (n places), s seen before -/
def scan (q : Nat → Bool) (k : Int32) : Nat → Nat → Nat → Int32
  | _, 0, _ => -1
  | i, n + 1, s => if q i = true then (if nI s = k then nI i else scan q k (i + 1) n (s + 1)) else scan q k (i + 1) n s
def eoR (g : Nat → Int32) (f : Nat → Nat → Int32) : Nat → Nat → Nat
  | 0, k => k
  | n + 1, k => if hereB g f (k + 1) = true then eoR g f n (k + 1) else k
theorem isI_nI {k : Nat} (h : k < 200) : isI (nI k) = true := by
  have h1 : ¬ nI k < 0 := nI_pos (by omega)
  have h2 : ¬ (200 : Int32) ≤ nI k := nI_ge (a := k) (b := 200) h (by decide)
  simp [isI, h1, h2]
theorem hereI_nI {g : Nat → Int32} {f : Nat → Nat → Int32} {k : Nat} (h : k < 200) : hereI g f (nI k) = hereB g f k := by
  simp [hereI, hereB, isF, isI_nI h, nI_clamp (show k < 2 ^ 31 by omega)]
theorem isI_of {i : Int32} (h : isI i = true) : ∃ k, k < 200 ∧ i = nI k := by
  simp only [isI, Bool.and_eq_true, Bool.not_eq_true', decide_eq_false_iff_not] at h
  rcases pk_ix i (n := 200) (by decide) with q | q | q
  · exact absurd q h.1
  · exact absurd q h.2
  · exact q
def volD (g : Nat → Int32) (i : Int32) : Int32 := if 1 ≤ g 2 then i / g 2 + 1 else -1
def numD (g : Nat → Int32) (i : Int32) : Int32 := if g 3 = 0 then i + 1 else if 1 ≤ g 2 then i - i / g 2 * g 2 + 1 else -1
