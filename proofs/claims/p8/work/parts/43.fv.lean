section TFV
variable {h h' : List tC} {N : Nat} {pk : Int} {τ : List Nat} {P : Nat → Nat → Bool}
/-- the reference's table of distances holds F -/
def FV (τ : List Nat) (h : List tC) (F : Nat → Nat → Int) : Prop := ∃ (k : Nat) (ys : List Int32), τ[k]? = some 60 ∧ h[k]? = some (.inl (0, ys)) ∧ ∀ a b, a < 8 → b < 8 → ∃ y : Int32, ys[8 * a + b]? = some y ∧ y.toInt = F a b
/-- element i of the reference's array of kind r is x -/
def ARV (τ : List Nat) (h : List tC) (r i : Nat) (x : Int32) : Prop := ∃ (k t : Nat) (xs : List Int32), τ[k]? = some r ∧ h[k]? = some (.inl (t, xs)) ∧ xs[i]? = some x
theorem ARV.uq (hu : UQ τ) {r i : Nat} (hr : 30 ≤ r) {x y : Int32} (a : ARV τ h r i x) (b : ARV τ h r i y) : x = y := by
  obtain ⟨k, t, xs, a1, a2, a3⟩ := a
  obtain ⟨k', t', xs', b1, b2, b3⟩ := b
  have e := hu k k' r (Or.inl hr) a1 b1
  subst e
  rw [a2] at b2
  cases b2
  rw [a3] at b3
  cases b3
  rfl
theorem arv_is (hu : UQ τ) {r i : Nat} (hr : 30 ≤ r) {x : Int32} (A : ARV τ h r i x) {k t : Nat} {f : List Int32} (tk : τ[k]? = some r) (e : h[k]? = some (.inl (t, f))) {j : Nat} {v : Int32} (g : f[j]? = some v) (hj : j = i) : v = x := by
  subst hj
  exact ARV.uq hu hr ⟨k, t, f, tk, e, g⟩ A
theorem ARV.fr (f : Fr P τ h h') {r i : Nat} (hp : P r 0 = true) {x : Int32} (a : ARV τ h r i x) : ARV τ h' r i x := by
  obtain ⟨k, t, xs, a1, a2, a3⟩ := a
  exact ⟨k, t, xs, a1, fr_arrI f a1 hp a2, a3⟩
theorem ARV.back (f : Fr P τ h h') {r i : Nat} (hp : P r 0 = true) {x : Int32} (a : ARV τ h' r i x) : ARV τ h r i x := by
  obtain ⟨k, t, xs, a1, a2, a3⟩ := a
  exact ⟨k, t, xs, a1, fr_arrB f a1 hp a2, a3⟩
def BIT (k l : Int32) : Prop := ((k >>> (l &&& 31)) &&& 1).toInt = 1
/-- link l is a step by what router r knows -/
def STEP (τ : List Nat) (h : List tC) (r l : Nat) (li : Int32) (lo hi : Int32) : Prop := ∃ ld k1 k2 : Int32, ARV τ h 32 l ld ∧ ld.toInt ≠ 0 ∧ ARV τ h 34 l lo ∧ ARV τ h 35 l hi ∧ ARV τ h 39 (8 * r + lo.toInt.toNat) k1 ∧ ARV τ h 39 (8 * r + hi.toInt.toNat) k2 ∧ BIT k1 li ∧ BIT k2 li
/-- the steps that router r knows, with their costs -/
def EE (τ : List Nat) (h : List tC) (r a b : Nat) (c : Int) : Prop := ∃ (l : Nat) (li lo hi co : Int32), l < 12 ∧ li.toInt = l ∧ STEP τ h r l li lo hi ∧ ARV τ h 36 l co ∧ co.toInt = c ∧ ((lo.toInt = a ∧ hi.toInt = b) ∨ (hi.toInt = a ∧ lo.toInt = b))
theorem fv_at {F : Nat → Nat → Int} (hu : UQ τ) (hF : FV τ h F) {k : Nat} {ys : List Int32} (tk : τ[k]? = some 60) (ek : h[k]? = some (.inl (0, ys))) {a b i : Nat} (ha : a < 8) (hb : b < 8) (hi : i = 8 * a + b) {y : Int32} (hy : ys[i]? = some y) : y.toInt = F a b := by
  obtain ⟨k', ys', t', e', f'⟩ := hF
  have e := hu k k' 60 (by decide) tk t'
  subst e
  rw [ek] at e'
  cases e'
  obtain ⟨z, h1, h2⟩ := f' a b ha hb
  rw [← hi, hy] at h1
  cases h1
  exact h2
theorem fv_set {F : Nat → Nat → Int} (hu : UQ τ) (hF : FV τ h F) {k : Nat} {ys : List Int32} (tk : τ[k]? = some 60) (ek : h[k]? = some (.inl (0, ys))) {i p q : Nat} (hp : p < 8) (hq : q < 8) (hi : i = 8 * p + q) {x : Int32} (e' : h'[k]? = some (.inl (0, ys.set i x))) : FV τ h' (fun a b => if a = p ∧ b = q then x.toInt else F a b) := by
  obtain ⟨k', ys', t', e2, f'⟩ := hF
  have e := hu k k' 60 (by decide) tk t'
  subst e
  rw [ek] at e2
  cases e2
  refine ⟨k, _, tk, e', fun a b ha hb => ?_⟩
  obtain ⟨y, h1, h2⟩ := f' a b ha hb
  by_cases c : a = p ∧ b = q
  · obtain ⟨rfl, rfl⟩ := c
    refine ⟨x, ?_, (if_pos ⟨rfl, rfl⟩).symm⟩
    rw [hi, List.getElem?_set_self (t_at h1)]
  · refine ⟨y, ?_, h2.trans (if_neg c).symm⟩
    rw [List.getElem?_set_ne (by omega)]
    exact h1
theorem FV.fr {F : Nat → Nat → Int} (f : Fr P τ h h') (hp : P 60 0 = true) (hF : FV τ h F) : FV τ h' F := by
  obtain ⟨k, ys, t, e, g⟩ := hF
  exact ⟨k, ys, t, fr_arrI f t hp e, g⟩
theorem fv_of (hw : WT N pk τ h) {k : Nat} (tk : τ[k]? = some 60) : ∃ F, FV τ h F := by
  obtain ⟨ys, e, hl, -⟩ := wt_ints hw tk rfl (by decide)
  refine ⟨fun a b => (ys.getD (8 * a + b) 0).toInt, k, ys, tk, e, fun a b ha hb => ?_⟩
  have hlt : 8 * a + b < ys.length := by omega
  exact ⟨ys[8 * a + b], List.getElem?_eq_getElem hlt, by simp [List.getD, List.getElem?_eq_getElem hlt]⟩
theorem EE.fr (hp1 : P 32 0 = true) (hp2 : P 34 0 = true) (hp3 : P 35 0 = true) (hp4 : P 39 0 = true) (hp5 : P 36 0 = true) (f : Fr P τ h h') (r a b : Nat) (c : Int) : EE τ h r a b c ↔ EE τ h' r a b c := by
  constructor
  · rintro ⟨l, li, lo, hi, co, h1, h2, ⟨ld, k1, k2, s1, s2, s3, s4, s5, s6, s7, s8⟩, h4, h5, h6⟩
    exact ⟨l, li, lo, hi, co, h1, h2, ⟨ld, k1, k2, s1.fr f hp1, s2, s3.fr f hp2, s4.fr f hp3, s5.fr f hp4, s6.fr f hp4, s7, s8⟩, h4.fr f hp5, h5, h6⟩
  · rintro ⟨l, li, lo, hi, co, h1, h2, ⟨ld, k1, k2, s1, s2, s3, s4, s5, s6, s7, s8⟩, h4, h5, h6⟩
    exact ⟨l, li, lo, hi, co, h1, h2, ⟨ld, k1, k2, s1.back f hp1, s2, s3.back f hp2, s4.back f hp3, s5.back f hp4, s6.back f hp4, s7, s8⟩, h4.back f hp5, h5, h6⟩

end TFV
section TDF
variable {l : Launch} {D : va_G} {M : tM} {Q : Nat → tL → List tV → List tC → Prop} {kc ks pc : Nat} {loc : tL} {st : List tV} {h : List tC}
theorem tw_def {x : Int32} (k : ∀ z : Int32, z = x → TT l D M Q kc ks pc loc (.inl z :: st) h) : TT l D M Q kc ks pc loc (.inl x :: st) h := k x rfl
end TDF
