section TLA
variable {h : List tC} {N : Nat} {pk : Int} {τ : List Nat}
/-- link i of the object at px lies at place q -/
def XQ (h : List tC) (px i q : Nat) : Prop := ∃ (fs : List tV) (kl : Nat) (rs : List (Option Nat)), h[px]? = some (.inr (.inr (6, fs))) ∧ fs[1]? = some (.inr (some kl)) ∧ h[kl]? = some (.inr (.inl (3, rs))) ∧ rs[i]? = some (some q)
/-- .. and its first field is x -/
def XL (h : List tC) (px i : Nat) (x : Int32) : Prop := ∃ (q : Nat) (fs : List tV), XQ h px i q ∧ h[q]? = some (.inr (.inr (0, fs))) ∧ fs[0]? = some (.inl x)
/-- what lay does to a link -/
def LAID (h h' : List tC) (px i : Nat) : Prop := ∃ (q : Nat) (x0 x1 y2 y3 y4 : Int32) (f1 f2 f3 f4 f5 : tV), XQ h px i q ∧ h[q]? = some (.inr (.inr (0, [.inl x0, f1, f2, f3, f4, f5]))) ∧ x0.toInt = 0 ∧ x1.toInt = 1 ∧ h' = h.set q (.inr (.inr (0, [.inl x1, f1, .inl y2, .inl y3, .inl y4, f5])))
theorem XQ.uq {px i q q' : Nat} (a : XQ h px i q) (b : XQ h px i q') : q = q' := by
  obtain ⟨fs, kl, rs, a1, a2, a3, a4⟩ := a
  obtain ⟨fs', kl', rs', b1, b2, b3, b4⟩ := b
  rw [a1] at b1; cases b1
  rw [a2] at b2; cases b2
  rw [a3] at b3; cases b3
  rw [a4] at b4; cases b4
  rfl
theorem wt_link (hw : WT N pk τ h) {a : Nat} (ta : τ[a]? = some 0) : ∃ (x0 x1 x2 x3 x4 : Int32) (q : Nat), h[a]? = some (.inr (.inr (0, [.inl x0, .inl x1, .inl x2, .inl x3, .inl x4, .inr (some q)]))) ∧ (0 ≤ x0.toInt ∧ x0.toInt ≤ 1) ∧ (0 ≤ x1.toInt ∧ x1.toInt ≤ 1) ∧ τ[q]? = some 13 := by
  obtain ⟨fs, h1, h2, h3, -⟩ := wt_obj hw ta (by decide)
  obtain ⟨f0, f1, f2, f3, f4, f5, rfl⟩ := len6 h2
  have ii : ∀ {lo hi : Int} {v : tV}, vty τ (.inl (lo, hi)) v → ∃ x, v = .inl x ∧ lo ≤ x.toInt ∧ x.toInt ≤ hi := by
    intro lo hi v hv
    match v, hv with
    | .inl x, hv => exact ⟨x, rfl, hv.1, hv.2⟩
    | .inr none, hv => exact hv.elim
    | .inr (some _), hv => exact hv.elim
  have e0 : vty τ booI f0 := by obtain ⟨v, q1, q2⟩ := h3 0 _ rfl; cases q1; exact q2
  have e1 : vty τ booI f1 := by obtain ⟨v, q1, q2⟩ := h3 1 _ rfl; cases q1; exact q2
  have e2 : vty τ (.inl (0, N - 1)) f2 := by obtain ⟨v, q1, q2⟩ := h3 2 _ rfl; cases q1; exact q2
  have e3 : vty τ (.inl (0, N - 1)) f3 := by obtain ⟨v, q1, q2⟩ := h3 3 _ rfl; cases q1; exact q2
  have e4 : vty τ (.inl (0, 60)) f4 := by obtain ⟨v, q1, q2⟩ := h3 4 _ rfl; cases q1; exact q2
  have e5 : vty τ (.inr (13, false)) f5 := by obtain ⟨v, q1, q2⟩ := h3 5 _ rfl; cases q1; exact q2
  obtain ⟨x0, rfl, b0⟩ := ii e0
  obtain ⟨x1, rfl, b1⟩ := ii e1
  obtain ⟨x2, rfl, b2⟩ := ii e2
  obtain ⟨x3, rfl, b3⟩ := ii e3
  obtain ⟨x4, rfl, b4⟩ := ii e4
  match f5, e5, h1 with
  | .inl x, e5, _ => exact e5.elim
  | .inr none, e5, _ => cases e5
  | .inr (some q), e5, h1 => exact ⟨x0, x1, x2, x3, x4, q, h1, b0, b1, e5⟩
end TLA
