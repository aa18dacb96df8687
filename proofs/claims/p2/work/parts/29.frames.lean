/-- what the reference's messages leave -/
def PMq (r _ : Nat) : Bool := !(decide (41 ≤ r) && decide (r ≤ 46))
/-- .. and what routers know of links -/
def PMk (r j : Nat) : Bool := PM r j || r == 39
theorem weak_PMq_PM : ∀ r j, PM r j = true → PMq r j = true := fun r j h => by
  simp [PM] at h
  simp [PMq]
  omega
theorem weak_PMk_PM : ∀ r j, PM r j = true → PMk r j = true := fun r j h => by simp [PMk, h]
theorem weak_PMq_PMk : ∀ r j, PMk r j = true → PMq r j = true := fun r j h => by
  simp [PMk, PM] at h
  simp [PMq]
  omega
