section TLI
variable {h h' : List tC} {N : Nat} {pk : Int} {τ : List Nat} {P : Nat → Nat → Bool}
/-- the steps among the first n links are in the table -/
def LI (τ : List Nat) (h : List tC) (r : Nat) (n : Int) (F : Nat → Nat → Int) : Prop := ∀ (l : Nat) (li lo hi co : Int32), (l : Int) < n → li.toInt = l → STEP τ h r l li lo hi → ARV τ h 36 l co → F lo.toInt.toNat hi.toInt.toNat ≤ co.toInt ∧ F hi.toInt.toNat lo.toInt.toNat ≤ co.toInt
theorem STEP.back (f : Fr (PEX 60) τ h h') {r l : Nat} {li lo hi : Int32} (s : STEP τ h' r l li lo hi) : STEP τ h r l li lo hi := by
  obtain ⟨ld, k1, k2, s1, s2, s3, s4, s5, s6, s7, s8⟩ := s
  exact ⟨ld, k1, k2, s1.back f (by decide), s2, s3.back f (by decide), s4.back f (by decide), s5.back f (by decide), s6.back f (by decide), s7, s8⟩
theorem STEP.to (f : Fr (PEX 60) τ h h') {r l : Nat} {li lo hi : Int32} (s : STEP τ h r l li lo hi) : STEP τ h' r l li lo hi := by
  obtain ⟨ld, k1, k2, s1, s2, s3, s4, s5, s6, s7, s8⟩ := s
  exact ⟨ld, k1, k2, s1.fr f (by decide), s2, s3.fr f (by decide), s4.fr f (by decide), s5.fr f (by decide), s6.fr f (by decide), s7, s8⟩
theorem li_skip {r : Nat} {n : Int} {F : Nat → Nat → Int} (hL : LI τ h r n F) {m : Int} (hm : m = n + 1) (hno : ∀ (l : Nat) (li lo hi : Int32), (l : Int) = n → li.toInt = l → ¬ STEP τ h r l li lo hi) : LI τ h r m F := by
  intro l li lo hi co hl hli hs hc
  by_cases e : (l : Int) = n
  · exact absurd hs (hno l li lo hi e hli)
  · exact hL l li lo hi co (by omega) hli hs hc
theorem li_add {r : Nat} {n : Int} {F G : Nat → Nat → Int} (hu : UQ τ) (hL : LI τ h r n F) {m : Int} (hm : m = n + 1) {l0 : Nat} {lo0 hi0 co0 : Int32} (hl0 : (l0 : Int) = n) (a1 : ARV τ h 34 l0 lo0) (a2 : ARV τ h 35 l0 hi0) (a3 : ARV τ h 36 l0 co0) (hd : ∀ a b, a < N → b < N → G a b ≤ F a b) (hb : ∀ (l : Nat) (lo hi : Int32), ARV τ h 34 l lo → ARV τ h 35 l hi → lo.toInt.toNat < N ∧ hi.toInt.toNat < N) (g1 : G lo0.toInt.toNat hi0.toInt.toNat ≤ co0.toInt) (g2 : G hi0.toInt.toNat lo0.toInt.toNat ≤ co0.toInt) : LI τ h r m G := by
  intro l li lo hi co hl hli hs hc
  have hs' := hs
  obtain ⟨ld, k1, k2, s1, s2, s3, s4, -⟩ := hs'
  by_cases e : (l : Int) = n
  · have el : l = l0 := by omega
    subst el
    have e1 := ARV.uq hu (by decide) s3 a1
    have e2 := ARV.uq hu (by decide) s4 a2
    have e3 := ARV.uq hu (by decide) hc a3
    subst e1; subst e2; subst e3
    exact ⟨g1, g2⟩
  · have := hL l li lo hi co (by omega) hli hs hc
    obtain ⟨b1, b2⟩ := hb l lo hi s3 s4
    have d1 := hd _ _ b1 b2
    have d2 := hd _ _ b2 b1
    omega
theorem li_all {r : Nat} {n : Int} {F : Nat → Nat → Int} (hn : 12 ≤ n) (hb : ∀ (l : Nat) (lo hi : Int32), ARV τ h 34 l lo → ARV τ h 35 l hi → 0 ≤ lo.toInt ∧ 0 ≤ hi.toInt) (hL : LI τ h r n F) : fwL (EE τ h r) F := by
  rintro a o c ⟨l, li, lo, hi, co, h1, h2, hs, hc, rfl, hab⟩
  have := hL l li lo hi co (by omega) h2 hs hc
  rcases hab with ⟨e1, e2⟩ | ⟨e1, e2⟩
  · rw [show lo.toInt.toNat = a by omega, show hi.toInt.toNat = o by omega] at this
    exact this.1
  · rw [show hi.toInt.toNat = a by omega, show lo.toInt.toNat = o by omega] at this
    exact this.2
theorem wt_lohi (hw : WT N pk τ h) (l : Nat) (lo hi : Int32) (a : ARV τ h 34 l lo) (b : ARV τ h 35 l hi) : (0 ≤ lo.toInt ∧ lo.toInt ≤ (N : Int) - 1) ∧ 0 ≤ hi.toInt ∧ hi.toInt ≤ (N : Int) - 1 := by
  obtain ⟨k, t, xs, a1, a2, a3⟩ := a
  obtain ⟨k', t', xs', b1, b2, b3⟩ := b
  have c1 := hw.2.1 k 34 _ a1 a2 (by decide)
  have c2 := hw.2.1 k' 35 _ b1 b2 (by decide)
  obtain ⟨-, len, ft, c3, -, c4⟩ := c1
  obtain ⟨-, len', ft', c5, -, c6⟩ := c2
  cases c3; cases c5
  exact ⟨c4 _ (List.mem_of_getElem? a3), c6 _ (List.mem_of_getElem? b3)⟩
theorem ee_n (hw : WT N pk τ h) (hN : 2 ≤ N) (r a o : Nat) (c : Int) (e : EE τ h r a o c) : a < N ∧ o < N := by
  obtain ⟨l, li, lo, hi, co, -, -, ⟨ld, k1, k2, -, -, s3, s4, -⟩, -, -, h6⟩ := e
  have := wt_lohi hw l lo hi s3 s4
  omega
/-- a step put in both ways -/
theorem fw_both {E : Nat → Nat → Int → Prop} {F G H : Nat → Nat → Int} {p q : Nat} {c : Int} (hI : fwI N E F) (hp : p < N) (hq : q < N) (hc : 0 ≤ c) (e1 : E p q c) (e2 : E q p c) (hG : ∀ a b, a < N → b < N → G a b = if a = p ∧ b = q then min (F a b) c else F a b) (hH : ∀ a b, a < N → b < N → H a b = if a = q ∧ b = p then min (G a b) c else G a b) : fwI N E H ∧ (∀ a b, a < N → b < N → H a b ≤ F a b) ∧ H p q ≤ c ∧ H q p ≤ c := by
  by_cases d : p = q
  · subst d
    have z := hI.2.1 p hp
    have eG : ∀ a b, a < N → b < N → G a b = F a b := fun a b ha hb => by
      rw [hG a b ha hb]
      split
      · rename_i y
        obtain ⟨rfl, rfl⟩ := y
        omega
      · rfl
    have eH : ∀ a b, a < N → b < N → H a b = F a b := fun a b ha hb => by
      rw [hH a b ha hb, eG a b ha hb]
      split
      · rename_i y
        obtain ⟨rfl, rfl⟩ := y
        omega
      · rfl
    refine ⟨⟨fun a b ha hb => by rw [eH a b ha hb]; exact hI.1 a b ha hb, fun a ha => by rw [eH a a ha ha]; exact hI.2.1 a ha, fun a b ha hb hl => ?_⟩, fun a b ha hb => by rw [eH a b ha hb]; omega, by rw [eH p p hp hp]; omega, by rw [eH p p hp hp]; omega⟩
    rw [eH a b ha hb] at hl ⊢
    exact hI.2.2 a b ha hb hl
  · obtain ⟨i1, g1, d1⟩ := fw_step (G := G) hI hp hq d hc e1 (fun a b ha hb => by
      rw [hG a b ha hb]
      split
      · rename_i y
        obtain ⟨rfl, rfl⟩ := y
        rfl
      · rfl)
    obtain ⟨i2, g2, d2⟩ := fw_step (G := H) i1 hq hp (fun z => d z.symm) hc e2 (fun a b ha hb => by
      rw [hH a b ha hb]
      split
      · rename_i y
        obtain ⟨rfl, rfl⟩ := y
        rfl
      · rfl)
    refine ⟨i2, fun a b ha hb => ?_, ?_, g2⟩
    · have := d1 a b ha hb
      have := d2 a b ha hb
      omega
    · have := d2 p q hp hq
      omega
end TLI
