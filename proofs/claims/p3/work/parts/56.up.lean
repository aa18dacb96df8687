section TUP
variable {h h' : List tC} {N : Nat} {pk : Int} {τ : List Nat} {P : Nat → Nat → Bool}
/-- all but one field -/
def PEF (r0 k0 r j : Nat) : Bool := !(r == r0 && j == k0)
theorem weak_PEF {r0 k0 : Nat} (hp : P r0 k0 = false) : ∀ r j, P r j = true → PEF r0 k0 r j = true := fun r j z => by
  unfold PEF
  by_cases e : r = r0 ∧ j = k0
  · rw [e.1, e.2, hp] at z
    cases z
  · simp
    omega
def PMa (r j : Nat) : Bool := PM r j && !(r == 37) && !(r == 7 && j == 0)
def PMt (r j : Nat) : Bool := PM r j && !(r == 33) && !(r == 7 && j == 0)
def PMj (r j : Nat) : Bool := PM r j && !(r == 7 && j == 24) && !(r == 7 && j == 0)
theorem weak_PM_PMa : ∀ r j, PMa r j = true → PM r j = true := fun r j h => by simp only [PMa, Bool.and_eq_true] at h; exact h.1.1
theorem weak_PM_PMt : ∀ r j, PMt r j = true → PM r j = true := fun r j h => by simp only [PMt, Bool.and_eq_true] at h; exact h.1.1
theorem weak_PMk_PMa : ∀ r j, PMa r j = true → PMk r j = true := fun r j h => weak_PMk_PM r j (weak_PM_PMa r j h)
theorem weak_PMk_PMt : ∀ r j, PMt r j = true → PMk r j = true := fun r j h => weak_PMk_PM r j (weak_PM_PMt r j h)
theorem weak_PM_PMj : ∀ r j, PMj r j = true → PM r j = true := fun r j h => by simp only [PMj, Bool.and_eq_true] at h; exact h.1.1
theorem weak_PMk_PMj : ∀ r j, PMj r j = true → PMk r j = true := fun r j h => weak_PMk_PM r j (weak_PM_PMj r j h)
theorem weak_PMg_PMj : ∀ r j, PMj r j = true → PMg r j = true := fun r j h => by simp only [PMj, Bool.and_eq_true] at h; exact h.2
theorem weak_PMg_PMa : ∀ r j, PMa r j = true → PMg r j = true := fun r j h => by simp only [PMa, Bool.and_eq_true] at h; exact h.2
theorem weak_PMg_PMt : ∀ r j, PMt r j = true → PMg r j = true := fun r j h => by simp only [PMt, Bool.and_eq_true] at h; exact h.2
theorem i1_all {r0 : Nat} (own : I1r τ h' r0) (rr : ∀ r9 : Nat, r9 ≠ r0 → I1r τ h r9 → I1r τ h' r9) (hI : I1 τ h) : I1 τ h' := i1_iff.mpr (fun r9 h9 => by
  by_cases e : r9 = r0
  · rw [e]; exact own
  · exact rr r9 e (i1_iff.mp hI r9 h9))
/-- all routers but the two ends -/
def I1x (τ : List Nat) (h : List tC) (a b : Nat) : Prop := ∀ r, r < 8 → r ≠ a → r ≠ b → I1r τ h r
theorem i1x_up (hu : UQ τ) (f : Fr (PEX 33) τ h h') {k0 i : Nat} {us : List Int32} {x : Int32} (tk : τ[k0]? = some 33) (e : h[k0]? = some (.inl (1, us))) (g : h'[k0]? = some (.inl (1, us.set i x))) {lo0 hi0 : Int32} (a1 : ARV τ h 34 i lo0) (a2 : ARV τ h 35 i hi0) (hI : I1 τ h) {a b : Nat} (ha : lo0.toInt = a) (hb : hi0.toInt = b) : I1x τ h' a b := by
  intro r hr na nb l li k lo hi u hl hli ak bk c d e'
  have ak' := ak.back f (by decide)
  have d' := d.back f (by decide)
  have e2 := e'.back f (by decide)
  obtain ⟨k1, t, xs, c1, c2, c3⟩ := c
  have ek := hu k1 k0 33 (by decide) c1 tk
  subst ek
  rw [g] at c2
  cases c2
  have hlen : l < us.length := by have := t_at c3; simpa using this
  have old := hI r l li k lo hi us[l] hr hl hli ak' bk ⟨k1, 1, us, tk, e, List.getElem?_eq_getElem hlen⟩ d' e2
  by_cases z : i = l
  · subst z
    have q1 := ARV.uq hu (by decide) d' a1
    have q2 := ARV.uq hu (by decide) e2 a2
    rw [q1, q2] at old
    omega
  · rw [List.getElem?_set_ne z, List.getElem?_eq_getElem hlen] at c3
    cases c3
    exact old
theorem i1x_fr (f : Fr P τ h h') (p1 : P 39 0 = true) (p2 : P 33 0 = true) (p3 : P 34 0 = true) (p4 : P 35 0 = true) {a b : Nat} (hI : I1x τ h a b) : I1x τ h' a b := fun r hr na nb => i1r_fr f p1 p2 p3 p4 (hI r hr na nb)
end TUP
