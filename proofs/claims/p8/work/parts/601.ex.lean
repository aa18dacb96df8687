/-! FOR EXACT POSTS: small frames, and what turn, attach and inject write. -/
section TEX
variable {h hs h' : List tC} {N : Nat} {pk : Int} {τ : List Nat} {P : Nat → Nat → Bool} {px pm i q : Nat}
def PK01 (r j : Nat) : Bool := r == 0 && j == 1
def PK10 (r _ : Nat) : Bool := r == 10
def PK37 (r j : Nat) : Bool := r == 37 || (r == 7 && j == 0)
def PK33 (r j : Nat) : Bool := r == 33 || (r == 7 && j == 0)
def PK24 (r j : Nat) : Bool := r == 7 && (j == 0 || j == 24)
theorem only01 (p : P 0 1 = true) : ∀ r j, PK01 r j = true → P r j = true := fun r j z => by
  simp [PK01] at z
  obtain ⟨rfl, rfl⟩ := z
  exact p
theorem only10 (p : ∀ j, P 10 j = true) : ∀ r j, PK10 r j = true → P r j = true := fun r j z => by
  simp [PK10] at z
  subst z
  exact p j
theorem only37 (p : ∀ j, P 37 j = true) (p0 : P 7 0 = true) : ∀ r j, PK37 r j = true → P r j = true := fun r j z => by
  simp [PK37] at z
  rcases z with rfl | ⟨rfl, rfl⟩
  · exact p j
  · exact p0
theorem only33 (p : ∀ j, P 33 j = true) (p0 : P 7 0 = true) : ∀ r j, PK33 r j = true → P r j = true := fun r j z => by
  simp [PK33] at z
  rcases z with rfl | ⟨rfl, rfl⟩
  · exact p j
  · exact p0
theorem only24 (p0 : P 7 0 = true) (p1 : P 7 24 = true) : ∀ r j, PK24 r j = true → P r j = true := fun r j z => by
  simp [PK24] at z
  obtain ⟨rfl, rfl | rfl⟩ := z
  · exact p0
  · exact p1
theorem thr_fr (f : Fr P τ h h') (tm : τ[pm]? = some 7) (p : P 7 0 = true) {t : Int32} (T : THR h pm t) : THR h' pm t := by
  obtain ⟨fs, e, g⟩ := T
  exact fr_fld f tm p e g
/-- the reference's count of packets -/
def PKC (h : List tC) (pm : Nat) (n : Int32) : Prop := ∃ fs : List tV, h[pm]? = some (.inr (.inr (7, fs))) ∧ fs[24]? = some (.inl n)
theorem pkc_fr (f : Fr P τ h h') (tm : τ[pm]? = some 7) (p : P 7 24 = true) {n : Int32} (T : PKC h pm n) : PKC h' pm n := by
  obtain ⟨fs, e, g⟩ := T
  exact fr_fld f tm p e g
theorem PKC.uq {n n' : Int32} (a : PKC h pm n) (b : PKC h pm n') : n = n' := by
  obtain ⟨fs, e, g⟩ := a
  obtain ⟨fs', e', g'⟩ := b
  rw [e] at e'; cases e'
  rw [g] at g'; cases g'
  rfl
/-- the place q holds a link whose 'up' is x -/
def U1 (h : List tC) (q : Nat) (x : Int) : Prop := ∃ (fs : List tV) (y : Int32), h[q]? = some (.inr (.inr (0, fs))) ∧ fs[1]? = some (.inl y) ∧ y.toInt = x
def XU (h : List tC) (px i : Nat) (x : Int) : Prop := ∃ q : Nat, XQ h px i q ∧ U1 h q x
/-- what turn does to the links -/
def UPS (τ : List Nat) (h h' : List tC) (px i : Nat) (n : Int) : Prop := ∃ q : Nat, XQ h px i q ∧ U1 h' q n ∧ ∀ (q9 : Nat) (x : Int), q9 ≠ q → τ[q9]? = some 0 → U1 h' q9 x → U1 h q9 x
theorem u1_back (hw : WT N pk τ h) (f : Fr P τ h h') (tq : τ[q]? = some 0) (p : P 0 1 = true) {x : Int} (u : U1 h' q x) : U1 h q x := by
  obtain ⟨fs', y, e', g', hy⟩ := u
  obtain ⟨fs, e, -⟩ := wt_obj hw tq (by decide)
  obtain ⟨fs2, e2, g2⟩ := (f q 0 tq).1 0 fs e
  rw [e2] at e'; cases e'
  exact ⟨fs, y, e, by rw [← g2 1 p]; exact g', hy⟩
theorem ups_of (xq : XQ h px i q) (tq : τ[q]? = some 0) (o : ∀ q9 : Nat, q9 ≠ q → hs[q9]? = h[q9]?) {fs : List tV} {v : Int32} (s : hs[q]? = some (.inr (.inr (0, fs)))) (g : fs[1]? = some (.inl v)) {n : Int} (hv : v.toInt = n) (ws : WT N pk τ hs) (f2 : Fr PK01 τ hs h') : UPS τ h h' px i n := by
  obtain ⟨fs', e', g'⟩ := fr_fld f2 tq rfl s g
  refine ⟨q, xq, ⟨fs', v, e', g', hv⟩, fun q9 x hne t9 u => ?_⟩
  obtain ⟨fa, y, e, g, hy⟩ := u1_back ws f2 t9 rfl u
  rw [o q9 hne] at e
  exact ⟨fa, y, e, g, hy⟩
end TEX
