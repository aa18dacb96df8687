/-- what the reference's messages leave -/
def PMq (r _ : Nat) : Bool := !(decide (41 ≤ r) && decide (r ≤ 46))
/-- .. and what routers know of links -/
def PMk (r j : Nat) : Bool := PM r j || r == 39
theorem weak_PMq_PM : ∀ r j, PM r j = true → PMq r j = true := fun r j h => by
  simp [PM] at h
  simp [PMq]
  omega
theorem weak_PMk_PM : ∀ r j, PM r j = true → PMk r j = true := fun r j h => by simp [PMk, h]
theorem weak_PMq_PMk : ∀ r j, PMk r j = true → PMq r j = true := fun r j h => by
  simp [PMk, PM] at h
  simp [PMq]
  omega
/-- .. as a public method leaves it: all but 'thrown' -/
def PMo (r j : Nat) : Bool := PM r j && !(r == 7 && j == 0)
def PMko (r j : Nat) : Bool := PMk r j && !(r == 7 && j == 0)
theorem weak_PM_PMo : ∀ r j, PMo r j = true → PM r j = true := fun r j h => by simp only [PMo, Bool.and_eq_true] at h; exact h.1
theorem weak_PMk_PMo : ∀ r j, PMo r j = true → PMk r j = true := fun r j h => weak_PMk_PM r j (weak_PM_PMo r j h)
theorem weak_PMk_PMko : ∀ r j, PMko r j = true → PMk r j = true := fun r j h => by simp only [PMko, Bool.and_eq_true] at h; exact h.1
