section TI1
variable {h h' : List tC} {N : Nat} {pk : Int} {τ : List Nat} {P : Nat → Nat → Bool}
theorem i1_fr (f : Fr P τ h h') (p1 : P 39 0 = true) (p2 : P 33 0 = true) (p3 : P 34 0 = true) (p4 : P 35 0 = true) (hI : I1 τ h) : I1 τ h' :=
  fun r l li k lo hi u hr hl hli a b c d e => hI r l li k lo hi u hr hl hli (a.back f p1) b (c.back f p2) (d.back f p3) (e.back f p4)
theorem i1_set (hu : UQ τ) (f : Fr (PEX 39) τ h h') {k0 i : Nat} {ks : List Int32} {x : Int32} (tk : τ[k0]? = some 39) (e : h[k0]? = some (.inl (0, ks))) (g : h'[k0]? = some (.inl (0, ks.set i x))) (hi : ∀ r', r' < 8 → i ≠ 9 * r') (hI : I1 τ h) : I1 τ h' := by
  intro r l li k lo hi' u hr hl hli a b c d e'
  obtain ⟨k1, t, xs, a1, a2, a3⟩ := a
  have ek := hu k1 k0 39 (by decide) a1 tk
  subst ek
  rw [g] at a2
  cases a2
  rw [List.getElem?_set_ne (hi r hr)] at a3
  exact hI r l li k lo hi' u hr hl hli ⟨k1, 0, ks, tk, e, a3⟩ b (c.back f (by decide)) (d.back f (by decide)) (e'.back f (by decide))
/-- there is a message less than the room -/
def W15 (τ : List Nat) (h : List tC) (i : Nat) : Prop := ∀ (k : Nat) (xs : List Int32) (x : Int32), τ[k]? = some 41 → h[k]? = some (.inl (0, xs)) → xs[i]? = some x → x.toInt ≤ 15
theorem w15_fr (f : Fr P τ h h') (p1 : P 41 0 = true) {i : Nat} (w : W15 τ h i) : W15 τ h' i := fun k xs x tk e g => w k xs x tk (fr_arrB f tk p1 e) g
theorem w15_set (hu : UQ τ) {k0 : Nat} {ks : List Int32} {i : Nat} {x : Int32} (tk : τ[k0]? = some 41) (g : h'[k0]? = some (.inl (0, ks.set i x))) (hi : i < ks.length) (hx : x.toInt ≤ 15) : W15 τ h' i := fun k xs y tk' e gy => by
  have ek := hu k k0 41 (by decide) tk' tk
  subst ek
  rw [g] at e
  cases e
  rw [List.getElem?_set_self hi] at gy
  cases gy
  exact hx
end TI1
