section THW
variable {h h' : List tC} {N : Nat} {pk : Int} {τ : List Nat}
/-- a router's own record says no more than its links' ends -/
def I1 (τ : List Nat) (h : List tC) : Prop := ∀ (r l : Nat) (li k lo hi u : Int32), r < 8 → l < 12 → li.toInt = l → ARV τ h 39 (9 * r) k → BIT k li → ARV τ h 33 l u → ARV τ h 34 l lo → ARV τ h 35 l hi → u.toInt ≠ 0 ∧ (lo.toInt = r ∨ hi.toInt = r)
/-- link l0 is the first of a shortest way -/
def HOPW (N : Nat) (τ : List Nat) (h : List tC) (F : Nat → Nat → Int) (r e l0 : Nat) : Prop := ∃ (li lo hi co u : Int32) (o : Nat), li.toInt = l0 ∧ l0 < 12 ∧ STEP τ h r l0 li lo hi ∧ ARV τ h 33 l0 u ∧ u.toInt ≠ 0 ∧ (lo.toInt = r ∨ hi.toInt = r) ∧ ARV τ h 36 l0 co ∧ ((lo.toInt = r ∧ hi.toInt = o) ∨ (lo.toInt ≠ r ∧ lo.toInt = o)) ∧ o < N ∧ co.toInt + F o e = F r e
theorem hopw_of (hw : WT N pk τ h) (hN2 : 2 ≤ N) (hN8 : N ≤ 8) (hI : I1 τ h) {pm : Nat} (tm : τ[pm]? = some 7) {F : Nat → Nat → Int} {r e : Nat} (i1 : fwI N (EE τ h r) F) (i2 : fwT N N F) (i3 : fwL (EE τ h r) F) (f : Fr (PEX 60) τ h h') (hr : r < N) (he : e < N) (hne : r ≠ e) (hlt : F r e < 1000000) : ∃ l0, HOPW N τ h' F r e l0 := by
  obtain ⟨o, c, ⟨l, li, lo, hi, co, q1, q2, hs, hc, rfl, hab⟩, ho, heq⟩ := fw_hop i1 i2 i3 (fun a o c e => ee_n hw hN2 _ a o c e) hr he hne hlt
  obtain ⟨ld, k1, k2, s1, s2, s3, s4, s5, s6, s7, s8⟩ := id hs
  obtain ⟨fs9, e9, -⟩ := wt_obj hw tm (by decide)
  obtain ⟨k33, g33, t33⟩ := wt_ref (k := 3) hw tm (by decide) e9 rfl
  obtain ⟨us, eu, lu, -⟩ := wt_ints hw t33 rfl (by decide)
  have hlu : l < us.length := by omega
  have au : ARV τ h 33 l us[l] := ⟨k33, _, us, t33, eu, List.getElem?_eq_getElem hlu⟩
  have b := wt_lohi hw l lo hi s3 s4
  have up : us[l].toInt ≠ 0 ∧ (lo.toInt = r ∨ hi.toInt = r) := by
    rcases hab with ⟨y1, y2⟩ | ⟨y1, y2⟩
    · have y3 : 8 * r + lo.toInt.toNat = 9 * r := by omega
      rw [y3] at s5
      exact hI r l li k1 lo hi us[l] (by omega) q1 q2 s5 s7 au s3 s4
    · have y3 : 8 * r + hi.toInt.toNat = 9 * r := by omega
      rw [y3] at s6
      exact hI r l li k2 lo hi us[l] (by omega) q1 q2 s6 s8 au s3 s4
  refine ⟨l, li, lo, hi, co, us[l], o, q2, q1, hs.to f, au.fr f (by decide), up.1, up.2, hc.fr f (by decide), ?_, ho, heq⟩
  rcases hab with ⟨y1, y2⟩ | ⟨y1, y2⟩
  · exact Or.inl ⟨y1, y2⟩
  · by_cases z : lo.toInt = r
    · exact Or.inl ⟨z, by omega⟩
    · exact Or.inr ⟨z, y2⟩
end THW
