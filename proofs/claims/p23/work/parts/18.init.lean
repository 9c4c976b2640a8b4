def g0 : Nat → Int32 := fun k => match k with
  | 1 => 30 | 2 => 12 | 3 => 1 | 5 => 7 | 6 => 30 | 7 => 1 | 9 => -1 | _ => 0
def f0 : Nat → Nat → Int32 := fun _ _ => 0
def ad7 (x0 x1 x2 x3 x4 x5 x6 : Nat) : Nat → Nat := fun i => match i with
  | 0 => x0 | 1 => x1 | 2 => x2 | 3 => x3 | 4 => x4 | 5 => x5 | _ => x6
theorem vd_1 {A : Nat → Prop} {h : Nat} {e : va_E} (hA : A h) : va_D A [(h, e)] :=
  ⟨fun i j p q hi hj _ => by
    have h1 := (List.getElem?_eq_some_iff.mp hi).1
    have h2 := (List.getElem?_eq_some_iff.mp hj).1
    simp at h1 h2; omega, fun k q hk => by
    have h1 := (List.getElem?_eq_some_iff.mp hk).1
    simp at h1; subst h1
    cases hk; exact hA⟩
theorem ty_int {D : va_G} {cl : List vw_C} {tys : List (ClassId × FieldType)} {U : State} {c1 c2 : ClassId} (h : va_K D cl tys U) (i j : Nat) (h1 : tys[i]? = some (c1, .int)) (h2 : tys[j]? = some (c2, .int)) : c1 = c2 := by
  have e1 : U.vm.findClass ("[" ++ FieldType.int.toString) = some c1 := (h.2 i _ h1).2
  have e2 : U.vm.findClass ("[" ++ FieldType.int.toString) = some c2 := (h.2 j _ h2).2
  exact Option.some.inj (e1.symm.trans e2)
theorem ty_bool {D : va_G} {cl : List vw_C} {tys : List (ClassId × FieldType)} {U : State} {c1 c2 : ClassId} (h : va_K D cl tys U) (i j : Nat) (h1 : tys[i]? = some (c1, .boolean)) (h2 : tys[j]? = some (c2, .boolean)) : c1 = c2 := by
  have e1 : U.vm.findClass ("[" ++ FieldType.boolean.toString) = some c1 := (h.2 i _ h1).2
  have e2 : U.vm.findClass ("[" ++ FieldType.boolean.toString) = some c2 := (h.2 j _ h2).2
  exact Option.some.inj (e1.symm.trans e2)
theorem wD_get {a : Nat → Nat} {cI cZ : ClassId} {g : Nat → Int32} {f : Nat → Nat → Int32} {cd : Nat → Int32} {tc : Int32} : ∀ i, i < 7 → ∃ e, (wD a cI cZ g f cd tc)[i]? = some (a i, e)
  | 0, _ => ⟨_, rfl⟩ | 1, _ => ⟨_, rfl⟩ | 2, _ => ⟨_, rfl⟩ | 3, _ => ⟨_, rfl⟩ | 4, _ => ⟨_, rfl⟩ | 5, _ => ⟨_, rfl⟩ | 6, _ => ⟨_, rfl⟩
  | i + 7, h => absurd h (by omega)
theorem wD_ap {A : Nat → Prop} {a : Nat → Nat} {cI cZ : ClassId} {g : Nat → Int32} {f : Nat → Nat → Int32} {cd : Nat → Int32} {tc : Int32} (h : va_D A (wD a cI cZ g f cd tc)) : apart a 7 ∧ ∀ i, i < 7 → A (a i) :=
  ⟨fun i j hi hj e => by
    obtain ⟨e1, h1⟩ := wD_get (a := a) (cI := cI) (cZ := cZ) (g := g) (f := f) (cd := cd) (tc := tc) i hi
    obtain ⟨e2, h2⟩ := wD_get (a := a) (cI := cI) (cZ := cZ) (g := g) (f := f) (cd := cd) (tc := tc) j hj
    exact h.1 i j _ _ h1 h2 e, fun i hi => by
    obtain ⟨e1, h1⟩ := wD_get (a := a) (cI := cI) (cZ := cZ) (g := g) (f := f) (cd := cd) (tc := tc) i hi
    exact h.2 i _ h1⟩
abbrev a1S (h sz : Nat) : Nat → Prop := aS (fun _ => h) 1 sz
theorem a1_h (h sz : Nat) : a1S h sz h := Or.inl ⟨0, by decide, rfl⟩
/-- a constructor: the object is there, blank; it makes its rows -/
def mkD (l : Launch) (y : MethodName) (wl : List Cond) (rm : Room) (G : va_G) (ws : va_W) (A : Nat → Prop) (sz : Nat) (h0 k : Nat) (mc ms : Nat) (wf : (Nat → Nat) → ClassId → ClassId → va_W) : Prop :=
  Met l y wl rm (va_Pc [.ref h0] (fun U => U.heap.size = sz ∧ va_P G vwCl ws U.heap ∧ va_K G vwCl [] U)) (va_Qv (fun u : (Nat → Nat) × ClassId × ClassId => u.1 0 = h0 ∧ apart u.1 k ∧ ∀ i, i < k → A (u.1 i)) (fun u t => va_P G vwCl (wf u.1 u.2.1 u.2.2) t.heap ∧ va_K G vwCl (tyIZ u.2.1 u.2.2) t) A) mc ms A

