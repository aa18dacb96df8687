section TI2
variable {h h' : List tC} {N : Nat} {pk : Int} {τ : List Nat} {P : Nat → Nat → Bool}
/-- a link that is up is laid -/
def I2 (τ : List Nat) (h : List tC) : Prop := ∀ (l : Nat) (u ld : Int32), ARV τ h 33 l u → ARV τ h 32 l ld → u.toInt ≠ 0 → ld.toInt ≠ 0
theorem i2_fr (f : Fr P τ h h') (p1 : P 32 0 = true) (p2 : P 33 0 = true) (hI : I2 τ h) : I2 τ h' := fun l u ld a b => hI l u ld (a.back f p2) (b.back f p1)
/-- no router's own record says that link i is up -/
def NB (τ : List Nat) (h : List tC) (i : Nat) : Prop := ∀ (r : Nat) (k li : Int32), r < 8 → li.toInt = i → ARV τ h 39 (9 * r) k → ¬ BIT k li
theorem nb_fr (f : Fr P τ h h') (p1 : P 39 0 = true) {i : Nat} (n : NB τ h i) : NB τ h' i := fun r k li hr hli a => n r k li hr hli (a.back f p1)
theorem nb_of (hw : WT N pk τ h) {pm : Nat} (tm : τ[pm]? = some 7) (h1 : I1 τ h) (h2 : I2 τ h) {i : Nat} (hi : i < 12) {ld : Int32} (a : ARV τ h 32 i ld) (hz : ld.toInt = 0) : NB τ h i := by
  intro r k li hr hli ak b
  obtain ⟨fs9, e9, -⟩ := wt_obj hw tm (by decide)
  obtain ⟨k33, -, t33⟩ := wt_ref (k := 3) hw tm (by decide) e9 rfl
  obtain ⟨k34, -, t34⟩ := wt_ref (k := 4) hw tm (by decide) e9 rfl
  obtain ⟨k35, -, t35⟩ := wt_ref (k := 5) hw tm (by decide) e9 rfl
  obtain ⟨us, eu, lu, -⟩ := wt_ints hw t33 rfl (by decide)
  obtain ⟨ls, el, ll, -⟩ := wt_ints hw t34 rfl (by decide)
  obtain ⟨hs, eh, lh, -⟩ := wt_ints hw t35 rfl (by decide)
  have a1 : ARV τ h 33 i (us[i]'(by omega)) := ⟨k33, _, us, t33, eu, List.getElem?_eq_getElem (by omega)⟩
  have a2 : ARV τ h 34 i (ls[i]'(by omega)) := ⟨k34, _, ls, t34, el, List.getElem?_eq_getElem (by omega)⟩
  have a3 : ARV τ h 35 i (hs[i]'(by omega)) := ⟨k35, _, hs, t35, eh, List.getElem?_eq_getElem (by omega)⟩
  have := (h1 r i li k _ _ _ hr hi hli ak b a1 a2 a3).1
  exact h2 i _ ld a1 a this hz
/-- writing an end of such a link -/
theorem i1_end (hu : UQ τ) {r0 : Nat} (hr0 : r0 = 34 ∨ r0 = 35) (f : Fr (PEX r0) τ h h') {k0 i t : Nat} {xs : List Int32} {x : Int32} (tk : τ[k0]? = some r0) (e : h[k0]? = some (.inl (t, xs))) (g : h'[k0]? = some (.inl (t, xs.set i x))) (n : NB τ h i) (hI : I1 τ h) : I1 τ h' := by
  intro r l li k lo hi u hr hl hli a b c d e'
  have p39 : PEX r0 39 0 = true := by rcases hr0 with rfl | rfl <;> rfl
  have p33 : PEX r0 33 0 = true := by rcases hr0 with rfl | rfl <;> rfl
  have a' := a.back f p39
  have c' := c.back f p33
  have hne : i ≠ l := fun z => by subst z; exact n r k li hr hli a' b
  have sub : ∀ {q : Nat} {y : Int32}, q = 34 ∨ q = 35 → ARV τ h' q l y → ARV τ h q l y := by
    intro q y hq hy
    by_cases z : q = r0
    · subst z
      obtain ⟨k1, t1, ys, y1, y2, y3⟩ := hy
      have ek := hu k1 k0 q (by omega) y1 tk
      subst ek
      rw [g] at y2
      cases y2
      rw [List.getElem?_set_ne hne] at y3
      exact ⟨k1, t, xs, tk, e, y3⟩
    · exact hy.back f (by simp [PEX, z])
  exact hI r l li k lo hi u hr hl hli a' b c' (sub (Or.inl rfl) d) (sub (Or.inr rfl) e')
theorem i2_up (hu : UQ τ) (f : Fr (PEX 33) τ h h') {k0 i : Nat} {us : List Int32} {x ld : Int32} (tk : τ[k0]? = some 33) (e : h[k0]? = some (.inl (1, us))) (g : h'[k0]? = some (.inl (1, us.set i x))) (a : ARV τ h 32 i ld) (hz : ld.toInt ≠ 0) (hI : I2 τ h) : I2 τ h' := by
  intro l u ld' b c d
  have c' := c.back f (by decide)
  by_cases z : i = l
  · subst z
    have q := ARV.uq hu (by decide) c' a
    rw [q]
    exact hz
  · obtain ⟨k1, t1, ys, y1, y2, y3⟩ := b
    have ek := hu k1 k0 33 (by decide) y1 tk
    subst ek
    rw [g] at y2
    cases y2
    rw [List.getElem?_set_ne z] at y3
    exact hI l u ld' ⟨k1, 1, us, tk, e, y3⟩ c' d
end TI2
