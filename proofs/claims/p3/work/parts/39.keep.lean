section TKP
variable {h h' : List tC} {N : Nat} {pk : Int} {τ : List Nat} {P : Nat → Nat → Bool}
/-- all but one kind of array -/
def PEX (r0 r _ : Nat) : Bool := !(r == r0)
theorem weak_PEX {r0 : Nat} (hp : ∀ j, P r0 j = false) : ∀ r j, P r j = true → PEX r0 r j = true := fun r j z => by
  unfold PEX
  by_cases e : r = r0
  · subst e
    rw [hp j] at z
    cases z
  · simp [e]
theorem fr_fld (f : Fr P τ h h') {k r j ci : Nat} (ht : τ[k]? = some r) (hp : P r j = true) {fs : List tV} {v : tV} (e : h[k]? = some (.inr (.inr (ci, fs)))) (g : fs[j]? = some v) : ∃ fs' : List tV, h'[k]? = some (.inr (.inr (ci, fs'))) ∧ fs'[j]? = some v := by
  obtain ⟨fs', h1, h2⟩ := (f k r ht).1 ci fs e
  exact ⟨fs', h1, by rw [h2 j hp]; exact g⟩
/-- the reference's 'thrown' -/
def THR (h : List tC) (pm : Nat) (t : Int32) : Prop := ∃ fs : List tV, h[pm]? = some (.inr (.inr (7, fs))) ∧ fs[0]? = some (.inl t)
def PMg (r j : Nat) : Bool := !(r == 7 && j == 0)
def PMlay (r j : Nat) : Bool := !(r == 32 || r == 34 || r == 35 || r == 36) && !(r == 7 && j == 0)
theorem weak_PMg_PMlay : ∀ r j, PMlay r j = true → PMg r j = true := fun r j h => by simp [PMlay] at h; simp [PMg]; exact h.2
end TKP
