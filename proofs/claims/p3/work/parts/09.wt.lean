/-! TYPED HEAPS: a role for each place; what each role's cell holds. -/
abbrev tF : Type := (Int × Int) ⊕ (Nat × Bool)
def vty (τ : List Nat) (ft : tF) (v : tV) : Prop := match ft, v with
  | .inl (lo, hi), .inl x => lo ≤ x.toInt ∧ x.toInt ≤ hi
  | .inr (_, nu), .inr none => nu = true
  | .inr (r, _), .inr (some q) => τ[q]? = some r
  | _, _ => False
abbrev anyI : tF := .inl (-2147483648, 2147483647)
abbrev booI : tF := .inl (0, 1)
/-- the fields of the kinds of objects -/
def fts (N : Nat) (pk : Int) : Nat → List tF
  | 0 => [booI, booI, .inl (0, N - 1), .inl (0, N - 1), .inl (0, 60), .inr (13, false)]
  | 1 => [.inl (0, 4), .inl (0, 63), anyI, anyI, .inr (5, true), booI]
  | 2 => [.inr (12, false), .inl (0, 15), .inl (0, 16)]
  | 3 => [.inl (0, 7), anyI, anyI, anyI, anyI]
  | 4 => [.inl (0, N - 1), .inr (14, false), .inr (15, false), .inr (17, false), .inr (17, false), .inr (19, false), .inr (19, false), .inr (21, false), .inr (22, false)]
  | 5 => [.inl (0, 7), anyI, anyI, anyI]
  | 6 => [.inr (8, false), .inr (9, false), .inr (10, false), .inr (11, false), .inl (pk, pk), anyI, .inr (1, false)]
  | 7 => [anyI, .inl (N, N), .inr (32, false), .inr (33, false), .inr (34, false), .inr (35, false), .inr (36, false), .inr (37, false), .inr (38, false), .inr (39, false), .inr (40, false), .inr (41, false), .inr (42, false), .inr (43, false), .inr (44, false), .inr (45, false), .inr (46, false), anyI, .inr (48, false), .inr (49, false), .inr (50, false), .inr (51, false), .inr (52, false), .inr (53, false), .inl (0, 64), .inr (55, false), .inr (56, false), .inr (57, false), .inr (58, false), .inr (59, false), .inr (60, false)]
  | _ => []
/-- the kinds of arrays: type, length, what an element is -/
def ats (N : Nat) : Nat → Option (Nat × Nat × tF)
  | 8 => some (2, N, .inr (4, false))
  | 9 => some (3, 12, .inr (0, false))
  | 10 => some (0, 8, .inl (-1, N - 1))
  | 11 => some (4, 64, .inr (3, true))
  | 12 => some (7, 16, .inr (1, false))
  | 13 => some (6, 2, .inr (2, false))
  | 14 => some (5, 8, .inr (5, true))
  | 15 => some (8, 8, .inr (16, false))
  | 16 => some (0, 8, anyI)
  | 17 => some (8, 8, .inr (18, false))
  | 18 => some (0, 12, anyI)
  | 19 => some (0, 8, anyI)
  | 21 => some (0, 80, .inl (-1, 7))
  | 22 => some (0, 80, anyI)
  | 32 => some (1, 12, booI)
  | 33 => some (1, 12, booI)
  | 34 => some (0, 12, .inl (0, N - 1))
  | 35 => some (0, 12, .inl (0, N - 1))
  | 36 => some (0, 12, .inl (0, 60))
  | 37 => some (0, 8, .inl (-1, N - 1))
  | 38 => some (0, 64, anyI)
  | 39 => some (0, 64, anyI)
  | 40 => some (0, 64, anyI)
  | 41 => some (0, 24, .inl (0, 16))
  | 42 => some (0, 384, .inl (0, 4))
  | 43 => some (0, 384, .inl (0, 63))
  | 44 => some (0, 384, anyI)
  | 45 => some (0, 384, anyI)
  | 46 => some (1, 384, booI)
  | 48 => some (0, 768, .inl (-1, 79))
  | 49 => some (0, 768, anyI)
  | 50 => some (0, 64, .inl (-1, 79))
  | 51 => some (0, 64, anyI)
  | 52 => some (0, 512, .inl (0, 8))
  | 53 => some (0, 512, anyI)
  | 55 => some (0, 64, .inl (0, 7))
  | 56 => some (0, 64, anyI)
  | 57 => some (0, 64, anyI)
  | 58 => some (0, 64, anyI)
  | 59 => some (0, 64, anyI)
  | 60 => some (0, 64, anyI)
  | _ => none
/-- a message's kind and subject -/
def msgOK (pk : Int) (fs : List tV) : Prop := ∀ x y : Int32, fs[0]? = some (.inl x) → fs[1]? = some (.inl y) → (x.toInt ≠ 4 → y.toInt ≤ 7) ∧ (x.toInt = 4 → y.toInt < pk)
def conf (N : Nat) (pk : Int) (τ : List Nat) (r : Nat) (c : tC) : Prop := match c with
  | .inl (t, xs) => t < 2 ∧ ∃ (len : Nat) (ft : tF), ats N r = some (t, len, ft) ∧ xs.length = len ∧ ∀ x ∈ xs, vty τ ft (.inl x)
  | .inr (.inl (t, rs)) => 2 ≤ t ∧ (∃ (len : Nat) (ft : tF), ats N r = some (t, len, ft) ∧ rs.length = len ∧ ∀ q ∈ rs, vty τ ft (.inr q)) ∧ (r = 11 → ∀ j : Nat, rs[j]? = some none → pk ≤ j)
  | .inr (.inr (ci, fs)) => r = ci ∧ ci < 8 ∧ fs.length = (fts N pk ci).length ∧ (∀ (j : Nat) (ft : tF) (v : tV), (fts N pk ci)[j]? = some ft → fs[j]? = some v → vty τ ft v) ∧ (ci = 1 → msgOK pk fs)
/-- the reference's messages: what a kind says of subject and value -/
def MI (τ : List Nat) (h : List tC) : Prop := ∀ (ka kw kv : Nat) (xs ys zs : List Int32), τ[ka]? = some 42 → τ[kw]? = some 43 → τ[kv]? = some 44 → h[ka]? = some (.inl (0, xs)) → h[kw]? = some (.inl (0, ys)) → h[kv]? = some (.inl (0, zs)) → ∀ (j : Nat) (x y z : Int32), xs[j]? = some x → ys[j]? = some y → zs[j]? = some z → (x.toInt ≠ 4 → y.toInt ≤ 7) ∧ (x.toInt ≠ 0 → -1 ≤ z.toInt ∧ z.toInt ≤ 79)
/-- the reference's arrays are one of each kind -/
def UQ (τ : List Nat) : Prop := ∀ k k' r : Nat, (30 ≤ r ∨ (6 ≤ r ∧ r ≤ 11)) → τ[k]? = some r → τ[k']? = some r → k = k'
def WT (N : Nat) (pk : Int) (τ : List Nat) (h : List tC) : Prop := h.length = τ.length ∧ (∀ (k r : Nat) (c : tC), τ[k]? = some r → h[k]? = some c → r ≠ 29 → conf N pk τ r c) ∧ MI τ h ∧ UQ τ
/-- what is kept: P says which fields (of arrays: place 0) -/
def Fr (P : Nat → Nat → Bool) (τ : List Nat) (h h' : List tC) : Prop := ∀ (k r : Nat), τ[k]? = some r → (∀ (ci : Nat) (fs : List tV), h[k]? = some (.inr (.inr (ci, fs))) → ∃ fs' : List tV, h'[k]? = some (.inr (.inr (ci, fs'))) ∧ ∀ j, P r j = true → fs'[j]? = fs[j]?) ∧ ((∀ (ci : Nat) (fs : List tV), h[k]? ≠ some (.inr (.inr (ci, fs)))) → (∀ (ci : Nat) (fs : List tV), h'[k]? ≠ some (.inr (.inr (ci, fs)))) ∧ (P r 0 = true → h'[k]? = h[k]?))
theorem Fr.rf {P : Nat → Nat → Bool} {τ : List Nat} {h : List tC} : Fr P τ h h := fun _ _ _ => ⟨fun _ fs hk => ⟨fs, hk, fun _ _ => rfl⟩, fun hk => ⟨hk, fun _ => rfl⟩⟩
theorem Fr.tr {P : Nat → Nat → Bool} {τ : List Nat} {h h1 h2 : List tC} (a : Fr P τ h h1) (b : Fr P τ h1 h2) : Fr P τ h h2 := by
  intro k r hk
  obtain ⟨a1, a2⟩ := a k r hk
  obtain ⟨b1, b2⟩ := b k r hk
  refine ⟨fun ci fs hf => ?_, fun hn => ?_⟩
  · obtain ⟨fs1, c1, c2⟩ := a1 ci fs hf
    obtain ⟨fs2, d1, d2⟩ := b1 ci fs1 c1
    exact ⟨fs2, d1, fun j hj => (d2 j hj).trans (c2 j hj)⟩
  · obtain ⟨c1, c2⟩ := a2 hn
    obtain ⟨d1, d2⟩ := b2 c1
    exact ⟨d1, fun hp => (d2 hp).trans (c2 hp)⟩
theorem Fr.weak {P P' : Nat → Nat → Bool} (hp : ∀ r j, P' r j = true → P r j = true) {τ : List Nat} {h h1 : List tC} (a : Fr P τ h h1) : Fr P' τ h h1 := by
  intro k r hk
  obtain ⟨a1, a2⟩ := a k r hk
  refine ⟨fun ci fs hf => ?_, fun hn => ?_⟩
  · obtain ⟨fs1, c1, c2⟩ := a1 ci fs hf
    exact ⟨fs1, c1, fun j hj => c2 j (hp _ _ hj)⟩
  · obtain ⟨c1, c2⟩ := a2 hn
    exact ⟨c1, fun h => c2 (hp _ _ h)⟩
theorem Fr.sub {P : Nat → Nat → Bool} {τ τ' : List Nat} (hp : tPre τ τ') {h h1 : List tC} (a : Fr P τ' h h1) : Fr P τ h h1 := by
  intro k r hk
  obtain ⟨x, rfl⟩ := hp
  exact a k r (by rw [List.getElem?_append_left (t_at hk)]; exact hk)
theorem tup {τ τ' : List Nat} (hp : tPre τ τ') {q r : Nat} (h : τ[q]? = some r) : τ'[q]? = some r := by
  obtain ⟨x, rfl⟩ := hp
  rw [List.getElem?_append_left (t_at h)]
  exact h
section WTL
variable {N : Nat} {pk : Int} {τ : List Nat} {h : List tC}
theorem wt_cell (hw : WT N pk τ h) {a r : Nat} (ht : τ[a]? = some r) (hn : r ≠ 29) : ∃ c, h[a]? = some c ∧ conf N pk τ r c := by
  have hlt : a < h.length := by rw [hw.1]; exact t_at ht
  exact ⟨h[a], List.getElem?_eq_getElem hlt, hw.2.1 a r _ ht (List.getElem?_eq_getElem hlt) hn⟩
theorem ats_lt {r : Nat} (h : r < 8) : ats N r = none := by
  match r, h with
  | 0, _ => rfl
  | 1, _ => rfl
  | 2, _ => rfl
  | 3, _ => rfl
  | 4, _ => rfl
  | 5, _ => rfl
  | 6, _ => rfl
  | 7, _ => rfl
theorem wt_obj (hw : WT N pk τ h) {a ci : Nat} (ht : τ[a]? = some ci) (hc : ci < 8) : ∃ fs, h[a]? = some (.inr (.inr (ci, fs))) ∧ fs.length = (fts N pk ci).length ∧ (∀ (j : Nat) (ft : tF), (fts N pk ci)[j]? = some ft → ∃ v, fs[j]? = some v ∧ vty τ ft v) ∧ (ci = 1 → msgOK pk fs) := by
  obtain ⟨c, h1, h2⟩ := wt_cell hw ht (by omega)
  match c, h1, h2 with
  | .inl (t, xs), _, ⟨_, _, _, h3, _⟩ => rw [ats_lt hc] at h3; cases h3
  | .inr (.inl (t, rs)), _, ⟨_, ⟨_, _, h3, _⟩, _⟩ => rw [ats_lt hc] at h3; cases h3
  | .inr (.inr (ci', fs)), h1, ⟨h3, _, h4, h5, h6⟩ =>
    subst h3
    refine ⟨fs, h1, h4, fun j ft hj => ?_, h6⟩
    have hlt : j < fs.length := by rw [h4]; exact t_at hj
    exact ⟨fs[j], List.getElem?_eq_getElem hlt, h5 j ft _ hj (List.getElem?_eq_getElem hlt)⟩
theorem wt_ints (hw : WT N pk τ h) {a r t len : Nat} {ft : tF} (ht : τ[a]? = some r) (ha : ats N r = some (t, len, ft)) (h2 : t < 2) : ∃ xs, h[a]? = some (.inl (t, xs)) ∧ xs.length = len ∧ ∀ x ∈ xs, vty τ ft (.inl x) := by
  obtain ⟨c, h1, h3⟩ := wt_cell hw ht (fun z => by subst z; simp [ats] at ha)
  match c, h1, h3 with
  | .inl (t', xs), h1, ⟨_, len', ft', h4, h5, h6⟩ =>
    rw [ha] at h4
    cases h4
    exact ⟨xs, h1, h5, h6⟩
  | .inr (.inl (t', rs)), _, ⟨h4, ⟨_, _, h5, _⟩, _⟩ => rw [ha] at h5; cases h5; omega
  | .inr (.inr (ci', fs)), _, ⟨h4, h5, _⟩ => subst h4; rw [ats_lt h5] at ha; cases ha
theorem wt_refs (hw : WT N pk τ h) {a r t len : Nat} {ft : tF} (ht : τ[a]? = some r) (ha : ats N r = some (t, len, ft)) (h2 : 2 ≤ t) : ∃ rs, h[a]? = some (.inr (.inl (t, rs))) ∧ rs.length = len ∧ (∀ q ∈ rs, vty τ ft (.inr q)) ∧ (r = 11 → ∀ j : Nat, rs[j]? = some none → pk ≤ j) := by
  obtain ⟨c, h1, h3⟩ := wt_cell hw ht (fun z => by subst z; simp [ats] at ha)
  match c, h1, h3 with
  | .inl (t', xs), h1, ⟨h4, len', ft', h5, _, _⟩ => rw [ha] at h5; cases h5; omega
  | .inr (.inl (t', rs)), h1, ⟨_, ⟨len', ft', h4, h5, h6⟩, h7⟩ =>
    rw [ha] at h4
    cases h4
    exact ⟨rs, h1, h5, h6, h7⟩
  | .inr (.inr (ci', fs)), _, ⟨h4, h5, _⟩ => subst h4; rw [ats_lt h5] at ha; cases ha
theorem wt_set (hw : WT N pk τ h) {a r : Nat} (ht : τ[a]? = some r) {c : tC} (hc : conf N pk τ r c) (hr : r ≠ 42 ∧ r ≠ 43 ∧ r ≠ 44 := by decide) : WT N pk τ (h.set a c) := by
  refine ⟨by rw [List.length_set]; exact hw.1, fun k r' c' hk hc' h29 => ?_, fun ka kw kv xs ys zs h1 h2 h3 g1 g2 g3 => ?_, hw.2.2.2⟩
  rotate_left
  · have e1 : a ≠ ka := fun z => by subst z; rw [ht] at h1; exact hr.1 (Option.some.inj h1)
    have e2 : a ≠ kw := fun z => by subst z; rw [ht] at h2; exact hr.2.1 (Option.some.inj h2)
    have e3 : a ≠ kv := fun z => by subst z; rw [ht] at h3; exact hr.2.2 (Option.some.inj h3)
    rw [List.getElem?_set_ne e1] at g1
    rw [List.getElem?_set_ne e2] at g2
    rw [List.getElem?_set_ne e3] at g3
    exact hw.2.2.1 ka kw kv xs ys zs h1 h2 h3 g1 g2 g3
  by_cases e : a = k
  · subst e
    rw [ht] at hk
    cases hk
    rw [List.getElem?_set_self (by rw [hw.1]; exact t_at ht)] at hc'
    cases hc'
    exact hc
  · rw [List.getElem?_set_ne e] at hc'
    exact hw.2.1 k r' c' hk hc' h29
theorem wt_puto (hw : WT N pk τ h) {a ci k : Nat} (ht : τ[a]? = some ci) (hc : ci < 8) {fs : List tV} (hf : h[a]? = some (.inr (.inr (ci, fs)))) {ft : tF} (hk : (fts N pk ci)[k]? = some ft) {v : tV} (hv : vty τ ft v) (hm : ci = 1 → 2 ≤ k) : WT N pk τ (h.set a (.inr (.inr (ci, fs.set k v)))) := by
  obtain ⟨fs', h1, h2, h3, h4⟩ := wt_obj hw ht hc
  rw [hf] at h1
  cases h1
  refine wt_set hw ht ⟨rfl, hc, by rw [List.length_set]; exact h2, fun j ft' v' hj hv' => ?_, fun e x y hx hy => ?_⟩ (by omega)
  · by_cases e : k = j
    · subst e
      rw [hk] at hj
      cases hj
      rw [List.getElem?_set_self (by rw [h2]; exact t_at hk)] at hv'
      cases hv'
      exact hv
    · rw [List.getElem?_set_ne e] at hv'
      obtain ⟨v2, g1, g2⟩ := h3 j ft' hj
      rw [g1] at hv'
      cases hv'
      exact g2
  · have := hm e
    rw [List.getElem?_set_ne (by omega)] at hx hy
    exact h4 e x y hx hy
theorem fr_puto {P : Nat → Nat → Bool} (hlen : h.length = τ.length) {a r ci k : Nat} (ht : τ[a]? = some r) {fs : List tV} (hf : h[a]? = some (.inr (.inr (ci, fs)))) {v : tV} (hp : P r k = false) : Fr P τ h (h.set a (.inr (.inr (ci, fs.set k v)))) := by
  intro q r' hq
  by_cases e : a = q
  · subst e
    rw [ht] at hq
    cases hq
    refine ⟨fun ci' fs' hf' => ?_, fun hn => absurd hf (hn ci fs)⟩
    rw [hf] at hf'
    cases hf'
    refine ⟨_, List.getElem?_set_self (by rw [hlen]; exact t_at ht), fun j hj => ?_⟩
    rw [List.getElem?_set_ne]
    intro e
    subst e
    rw [hp] at hj
    cases hj
  · refine ⟨fun ci' fs' hf' => ⟨fs', by rw [List.getElem?_set_ne e]; exact hf', fun _ _ => rfl⟩, fun hn => ⟨fun ci' fs' => by rw [List.getElem?_set_ne e]; exact hn ci' fs', fun _ => by rw [List.getElem?_set_ne e]⟩⟩
theorem fr_puta {P : Nat → Nat → Bool} (hlen : h.length = τ.length) {a r : Nat} (ht : τ[a]? = some r) (hf : ∀ ci fs, h[a]? ≠ some (.inr (.inr (ci, fs)))) {c : tC} (hc : ∀ ci fs, c ≠ .inr (.inr (ci, fs))) (hp : P r 0 = false) : Fr P τ h (h.set a c) := by
  intro q r' hq
  by_cases e : a = q
  · subst e
    rw [ht] at hq
    cases hq
    refine ⟨fun ci' fs' hf' => absurd hf' (hf ci' fs'), fun hn => ⟨fun ci' fs' => ?_, fun hj => by rw [hp] at hj; cases hj⟩⟩
    rw [List.getElem?_set_self (by rw [hlen]; exact t_at ht)]
    intro z
    exact hc ci' fs' (Option.some.inj z)
  · refine ⟨fun ci' fs' hf' => ⟨fs', by rw [List.getElem?_set_ne e]; exact hf', fun _ _ => rfl⟩, fun hn => ⟨fun ci' fs' => by rw [List.getElem?_set_ne e]; exact hn ci' fs', fun _ => by rw [List.getElem?_set_ne e]⟩⟩
theorem wt_puti (hw : WT N pk τ h) {a r t len i : Nat} {ft : tF} (ht : τ[a]? = some r) (ha : ats N r = some (t, len, ft)) {xs : List Int32} (hx : h[a]? = some (.inl (t, xs))) {x : Int32} (hv : vty τ ft (.inl x)) (hr : r ≠ 42 ∧ r ≠ 43 ∧ r ≠ 44 := by decide) : WT N pk τ (h.set a (.inl (t, xs.set i x))) := by
  have hc := hw.2.1 a r _ ht hx (fun z => by subst z; simp [ats] at ha)
  obtain ⟨h2, len', ft', h4, h5, h6⟩ := hc
  rw [ha] at h4
  cases h4
  refine wt_set hw ht ⟨h2, len, ft, ha, by rw [List.length_set]; exact h5, fun y hy => ?_⟩ hr
  rcases List.mem_or_eq_of_mem_set hy with h | rfl
  · exact h6 y h
  · exact hv
end WTL
