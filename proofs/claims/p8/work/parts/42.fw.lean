/-! SHORTEST WAYS, over the whole numbers: what the three loops make of a table of steps. -/
section FWA
variable (N : Nat) (E : Nat → Nat → Int → Prop)
/-- a way of n steps from a to b, d long -/
def walk : Nat → Nat → Nat → Int → Prop
  | 0, a, b, d => a = b ∧ d = 0
  | n + 1, a, b, d => ∃ (o : Nat) (c d' : Int), E a o c ∧ walk n o b d' ∧ d = c + d'
def fwI (F : Nat → Nat → Int) : Prop := (∀ a b, a < N → b < N → 0 ≤ F a b ∧ F a b ≤ 1000000) ∧ (∀ a, a < N → F a a = 0) ∧ ∀ a b, a < N → b < N → F a b < 1000000 → ∃ n, walk E n a b (F a b)
def fwT (m : Nat) (F : Nat → Nat → Int) : Prop := ∀ j a b, j < m → a < N → b < N → F a b ≤ F a j + F j b
def fwL (F : Nat → Nat → Int) : Prop := ∀ a o c, E a o c → F a o ≤ c
variable {N E}
theorem walk_app : ∀ {n k a m b : Nat} {d1 d2 : Int}, walk E n a m d1 → walk E k m b d2 → walk E (n + k) a b (d1 + d2)
  | 0, k, a, m, b, d1, d2, h1, h2 => by
    obtain ⟨rfl, rfl⟩ := h1
    rw [Nat.zero_add, Int.zero_add]
    exact h2
  | n + 1, k, a, m, b, d1, d2, ⟨o, c, d', e, w, e9⟩, h2 => by
    subst e9
    rw [show n + 1 + k = (n + k) + 1 by omega]
    exact ⟨o, c, d' + d2, e, walk_app w h2, by omega⟩
/-- one phase: every pair by way of m -/
theorem fw_phase {m : Nat} {F G : Nat → Nat → Int} (hm : m < N) (hI : fwI N E F) (hT : fwT N m F) (hL : fwL E F) (hEn : ∀ a o c, E a o c → a < N ∧ o < N) (hG : ∀ a b, a < N → b < N → G a b = min (F a b) (F a m + F m b)) : fwI N E G ∧ fwT N (m + 1) G ∧ fwL E G := by
  obtain ⟨i1, i2, i3⟩ := hI
  have zm := i2 m hm
  refine ⟨⟨fun a b ha hb => ?_, fun a ha => ?_, fun a b ha hb hlt => ?_⟩, fun j a b hj ha hb => ?_, fun a o c e => ?_⟩
  · have h1 := i1 a b ha hb
    have h2 := i1 a m ha hm
    have h3 := i1 m b hm hb
    rw [hG a b ha hb]
    omega
  · have h1 := i1 a m ha hm
    have h2 := i1 m a hm ha
    have h3 := i2 a ha
    rw [hG a a ha ha]
    omega
  · rw [hG a b ha hb] at hlt ⊢
    by_cases c : F a b ≤ F a m + F m b
    · rw [Int.min_eq_left c] at hlt ⊢
      exact i3 a b ha hb hlt
    · rw [Int.min_eq_right (by omega)] at hlt ⊢
      have h2 := i1 a m ha hm
      have h3 := i1 m b hm hb
      obtain ⟨n1, w1⟩ := i3 a m ha hm (by omega)
      obtain ⟨n2, w2⟩ := i3 m b hm hb (by omega)
      exact ⟨n1 + n2, walk_app w1 w2⟩
  · have hjN : j < N := by omega
    have am := i1 a m ha hm
    have mb := i1 m b hm hb
    have mj := i1 m j hm hjN
    have jm := i1 j m hjN hm
    rw [hG a b ha hb, hG a j ha hjN, hG j b hjN hb]
    by_cases e : j = m
    · subst e
      omega
    · have hj' : j < m := by omega
      have t1 := hT j a b hj' ha hb
      have t2 := hT j m b hj' hm hb
      have t3 := hT j a m hj' ha hm
      omega
  · obtain ⟨ha, ho⟩ := hEn a o c e
    have := hL a o c e
    rw [hG a o ha ho]
    omega
theorem walk_ge {F : Nat → Nat → Int} (hI : fwI N E F) (hT : fwT N N F) (hL : fwL E F) (hEn : ∀ a o c, E a o c → a < N ∧ o < N) : ∀ {n a b : Nat} {d : Int}, a < N → b < N → walk E n a b d → F a b ≤ d
  | 0, a, b, d, ha, hb, ⟨e1, e2⟩ => by
    subst e1; subst e2
    have := hI.2.1 a ha
    omega
  | n + 1, a, b, d, ha, hb, ⟨o, c, d', e, w, e2⟩ => by
    obtain ⟨-, ho⟩ := hEn a o c e
    have h1 := walk_ge hI hT hL hEn ho hb w
    have h2 := hT o a b ho ha hb
    have h3 := hL a o c e
    omega
/-- the first step of a shortest way -/
theorem fw_hop {F : Nat → Nat → Int} (hI : fwI N E F) (hT : fwT N N F) (hL : fwL E F) (hEn : ∀ a o c, E a o c → a < N ∧ o < N) {r e : Nat} (hr : r < N) (he : e < N) (hne : r ≠ e) (hlt : F r e < 1000000) : ∃ (o : Nat) (c : Int), E r o c ∧ o < N ∧ c + F o e = F r e := by
  obtain ⟨n, w⟩ := hI.2.2 r e hr he hlt
  match n, w with
  | 0, ⟨z, _⟩ => exact absurd z hne
  | n + 1, ⟨o, c, d', s, w, eq⟩ =>
    obtain ⟨-, ho⟩ := hEn r o c s
    have h1 := walk_ge hI hT hL hEn ho he w
    have h2 := hT o r e ho hr he
    have h3 := hL r o c s
    exact ⟨o, c, s, ho, by omega⟩
/-- the table before its first step is in -/
theorem fw_zero {F : Nat → Nat → Int} (h0 : ∀ a, a < N → F a a = 0) (h1 : ∀ a b, a < N → b < N → a ≠ b → F a b = 1000000) : fwI N E F ∧ fwT N 0 F := by
  refine ⟨⟨fun a b ha hb => ?_, h0, fun a b ha hb hlt => ?_⟩, fun j a b hj => absurd hj (Nat.not_lt_zero _)⟩
  · by_cases e : a = b
    · subst e; have := h0 a ha; omega
    · have := h1 a b ha hb e; omega
  · by_cases e : a = b
    · subst e; exact ⟨0, rfl, h0 a ha⟩
    · have := h1 a b ha hb e; omega
/-- a step more -/
theorem fw_step {F G : Nat → Nat → Int} {p q : Nat} {c : Int} (hI : fwI N E F) (hp : p < N) (hq : q < N) (hpq : p ≠ q) (hc : 0 ≤ c) (he : E p q c) (hG : ∀ a b, a < N → b < N → G a b = if a = p ∧ b = q then min (F p q) c else F a b) : fwI N E G ∧ G p q ≤ c ∧ ∀ a b, a < N → b < N → G a b ≤ F a b := by
  obtain ⟨i1, i2, i3⟩ := hI
  refine ⟨⟨fun a b ha hb => ?_, fun a ha => ?_, fun a b ha hb hlt => ?_⟩, ?_, fun a b ha hb => ?_⟩
  · rw [hG a b ha hb]
    have h1 := i1 a b ha hb
    have h2 := i1 p q hp hq
    split <;> omega
  · rw [hG a a ha ha, if_neg (fun z => hpq (z.1.symm.trans z.2))]
    exact i2 a ha
  · rw [hG a b ha hb] at hlt ⊢
    by_cases e : a = p ∧ b = q
    · rw [if_pos e] at hlt ⊢
      obtain ⟨rfl, rfl⟩ := e
      by_cases d : F a b ≤ c
      · rw [Int.min_eq_left d] at hlt ⊢
        exact i3 a b ha hb hlt
      · rw [Int.min_eq_right (by omega)]
        exact ⟨1, b, c, 0, he, ⟨rfl, rfl⟩, by omega⟩
    · rw [if_neg e] at hlt ⊢
      exact i3 a b ha hb hlt
  · rw [hG p q hp hq, if_pos ⟨rfl, rfl⟩]
    omega
  · rw [hG a b ha hb]
    split
    · rename_i e
      obtain ⟨rfl, rfl⟩ := e
      omega
    · omega
end FWA
