section TRP
variable {l : Launch} {D : va_G} {M : tM} {Q : Nat → tL → List tV → List tC → Prop} {kc ks pc : Nat} {loc : tL} {st : List tV} {h : List tC}
variable {N : Nat} {pk : Int} {τ : List Nat} {P : Nat → Nat → Bool}
theorem wt_ref (hw : WT N pk τ h) {a ci k r : Nat} (ht : τ[a]? = some ci) (hc : ci < 8) {fs : List tV} (hf : h[a]? = some (.inr (.inr (ci, fs)))) (hft : (fts N pk ci)[k]? = some (.inr (r, false))) : ∃ q, fs[k]? = some (.inr (some q)) ∧ τ[q]? = some r := by
  obtain ⟨fs', h1, h2, h3, h4⟩ := wt_obj hw ht hc
  rw [hf] at h1
  cases h1
  obtain ⟨v, h5, h6⟩ := h3 k _ hft
  match v, h5, h6 with
  | .inl x, _, h6 => exact h6.elim
  | .inr none, _, h6 => cases h6
  | .inr (some q), h5, h6 => exact ⟨q, h5, h6⟩
theorem t_neq {a b r r' : Nat} (ha : τ[a]? = some r) (hb : τ[b]? = some r') (hr : r ≠ r') : a ≠ b := fun z => by
  subst z
  rw [ha] at hb
  exact hr (Option.some.inj hb)
theorem wt_put3 (hw : WT N pk τ h) {ka kw kv : Nat} (ta : τ[ka]? = some 42) (tw : τ[kw]? = some 43) (tv : τ[kv]? = some 44) {xs ys zs : List Int32} (ex : h[ka]? = some (.inl (0, xs))) (ey : h[kw]? = some (.inl (0, ys))) (ez : h[kv]? = some (.inl (0, zs))) (j : Nat) {x y z : Int32}
    (b0 : 0 ≤ x.toInt) (b1 : x.toInt ≤ 4) (b2 : 0 ≤ y.toInt) (b3 : y.toInt ≤ 63) (r1 : x.toInt ≠ 4 → y.toInt ≤ 7) (r2 : x.toInt ≠ 0 → -1 ≤ z.toInt ∧ z.toInt ≤ 79) :
    WT N pk τ (((h.set ka (.inl (0, xs.set j x))).set kw (.inl (0, ys.set j y))).set kv (.inl (0, zs.set j z))) := by
  have n1 : ka ≠ kw := t_neq ta tw (by decide)
  have n2 : ka ≠ kv := t_neq ta tv (by decide)
  have n3 : kw ≠ kv := t_neq tw tv (by decide)
  have la := t_at ex
  have lw := t_at ey
  have lv := t_at ez
  have ca := hw.2.1 ka 42 _ ta ex (by decide)
  have cw := hw.2.1 kw 43 _ tw ey (by decide)
  have cv := hw.2.1 kv 44 _ tv ez (by decide)
  have atx : (((h.set ka (.inl (0, xs.set j x))).set kw (.inl (0, ys.set j y))).set kv (.inl (0, zs.set j z)))[ka]? = some (.inl (0, xs.set j x)) := by
    rw [List.getElem?_set_ne n2.symm, List.getElem?_set_ne n1.symm, List.getElem?_set_self la]
  have aty : (((h.set ka (.inl (0, xs.set j x))).set kw (.inl (0, ys.set j y))).set kv (.inl (0, zs.set j z)))[kw]? = some (.inl (0, ys.set j y)) := by
    rw [List.getElem?_set_ne n3.symm, List.getElem?_set_self (by rw [List.length_set]; exact lw)]
  have atz : (((h.set ka (.inl (0, xs.set j x))).set kw (.inl (0, ys.set j y))).set kv (.inl (0, zs.set j z)))[kv]? = some (.inl (0, zs.set j z)) := by
    rw [List.getElem?_set_self (by rw [List.length_set, List.length_set]; exact lv)]
  refine ⟨by simp only [List.length_set]; exact hw.1, fun k r c hk hc h29 => ?_, fun ka' kw' kv' xs' ys' zs' t1 t2 t3 g1 g2 g3 i x' y' z' q1 q2 q3 => ?_, hw.2.2.2⟩
  · by_cases e1 : k = ka
    · subst e1
      rw [ta] at hk
      cases hk
      rw [atx] at hc
      cases hc
      obtain ⟨k1, len, ft, k2, k3, k4⟩ := ca
      cases k2
      refine ⟨k1, _, _, rfl, by rw [List.length_set]; exact k3, fun u hu => ?_⟩
      rcases List.mem_or_eq_of_mem_set hu with hu | rfl
      · exact k4 u hu
      · exact ⟨b0, b1⟩
    · by_cases e2 : k = kw
      · subst e2
        rw [tw] at hk
        cases hk
        rw [aty] at hc
        cases hc
        obtain ⟨k1, len, ft, k2, k3, k4⟩ := cw
        cases k2
        refine ⟨k1, _, _, rfl, by rw [List.length_set]; exact k3, fun u hu => ?_⟩
        rcases List.mem_or_eq_of_mem_set hu with hu | rfl
        · exact k4 u hu
        · exact ⟨b2, b3⟩
      · by_cases e3 : k = kv
        · subst e3
          rw [tv] at hk
          cases hk
          rw [atz] at hc
          cases hc
          obtain ⟨k1, len, ft, k2, k3, k4⟩ := cv
          cases k2
          refine ⟨k1, _, _, rfl, by rw [List.length_set]; exact k3, fun u hu => ?_⟩
          rcases List.mem_or_eq_of_mem_set hu with hu | rfl
          · exact k4 u hu
          · exact i_ty u
        · rw [List.getElem?_set_ne (Ne.symm e3), List.getElem?_set_ne (Ne.symm e2), List.getElem?_set_ne (Ne.symm e1)] at hc
          exact hw.2.1 k r c hk hc h29
  · have u1 := hw.2.2.2 ka' ka 42 (by decide) t1 ta
    have u2 := hw.2.2.2 kw' kw 43 (by decide) t2 tw
    have u3 := hw.2.2.2 kv' kv 44 (by decide) t3 tv
    subst u1; subst u2; subst u3
    rw [atx] at g1
    rw [aty] at g2
    rw [atz] at g3
    cases g1; cases g2; cases g3
    by_cases e : j = i
    · subst e
      have lx : j < xs.length := by have := t_at q1; simpa using this
      have ly : j < ys.length := by have := t_at q2; simpa using this
      have lz : j < zs.length := by have := t_at q3; simpa using this
      rw [List.getElem?_set_self lx] at q1
      rw [List.getElem?_set_self ly] at q2
      rw [List.getElem?_set_self lz] at q3
      cases q1; cases q2; cases q3
      exact ⟨r1, r2⟩
    · rw [List.getElem?_set_ne e] at q1 q2 q3
      exact hw.2.2.1 ka' kw' kv' xs ys zs ta tw tv ex ey ez i x' y' z' q1 q2 q3
theorem fr_int {a r t : Nat} {xs ys : List Int32} (hlen : h.length = τ.length) (ht : τ[a]? = some r) (hx : h[a]? = some (.inl (t, xs))) (hp : P r 0 = false) : Fr P τ h (h.set a (.inl (t, ys))) :=
  fr_puta hlen ht (fun ci fs z => by rw [hx] at z; cases z) (fun ci fs z => by cases z) hp
theorem fr_put3 (hlen : h.length = τ.length) {ka kw kv : Nat} (ta : τ[ka]? = some 42) (tw : τ[kw]? = some 43) (tv : τ[kv]? = some 44) {xs ys zs xs' ys' zs' : List Int32} (ex : h[ka]? = some (.inl (0, xs))) (ey : h[kw]? = some (.inl (0, ys))) (ez : h[kv]? = some (.inl (0, zs))) (h42 : P 42 0 = false) (h43 : P 43 0 = false) (h44 : P 44 0 = false) :
    Fr P τ h (((h.set ka (.inl (0, xs'))).set kw (.inl (0, ys'))).set kv (.inl (0, zs'))) := by
  have n1 : ka ≠ kw := t_neq ta tw (by decide)
  have n2 : ka ≠ kv := t_neq ta tv (by decide)
  have n3 : kw ≠ kv := t_neq tw tv (by decide)
  refine (fr_int (ys := xs') hlen ta ex h42).tr ((fr_int (ys := ys') (by rw [List.length_set]; exact hlen) tw (by rw [List.getElem?_set_ne n1]; exact ey) h43).tr (fr_int (ys := zs') (by rw [List.length_set, List.length_set]; exact hlen) tv (by rw [List.getElem?_set_ne n3, List.getElem?_set_ne n2]; exact ez) h44))
def PMr (r _ : Nat) : Bool := !(decide (42 ≤ r) && decide (r ≤ 46))
theorem weak_PMr_PMq : ∀ r j, PMq r j = true → PMr r j = true := fun r j h => by
  simp [PMq] at h
  simp [PMr]
  omega
/-- .. and the numbers of waiting messages -/
def PMw (r j : Nat) : Bool := PM r j || r == 41
theorem weak_PMw_PM : ∀ r j, PM r j = true → PMw r j = true := fun r j h => by simp [PMw, h]
theorem fr_arrI {τ : List Nat} {h h' : List tC} {P : Nat → Nat → Bool} (f : Fr P τ h h') {k r : Nat} (ht : τ[k]? = some r) (hp : P r 0 = true) {c : Nat × List Int32} (e : h[k]? = some (.inl c)) : h'[k]? = some (.inl c) := by
  rw [((f k r ht).2 (fun ci fs z => by rw [e] at z; cases z)).2 hp]
  exact e
theorem fr_arrB {τ : List Nat} {h h' : List tC} {P : Nat → Nat → Bool} (f : Fr P τ h h') {k r : Nat} (ht : τ[k]? = some r) (hp : P r 0 = true) {c : Nat × List Int32} (e : h'[k]? = some (.inl c)) : h[k]? = some (.inl c) := by
  by_cases hn : ∀ (ci : Nat) (fs : List tV), h[k]? ≠ some (.inr (.inr (ci, fs)))
  · rw [← ((f k r ht).2 hn).2 hp]
    exact e
  · exfalso
    apply hn
    intro ci fs z
    obtain ⟨fs', q, -⟩ := (f k r ht).1 ci fs z
    rw [e] at q
    cases q
end TRP
