/-! CONSTRUCTORS: heaps with one object under way and new cells behind; role 29 is what is not yet whole. -/
section TCT
variable {l : Launch} {D : va_G} {M : tM} {Q : Nat → tL → List tV → List tC → Prop} {kc ks pc : Nat} {loc : tL} {st : List tV} {h : List tC}
variable {N : Nat} {pk : Int} {τ : List Nat} {P : Nat → Nat → Bool}
/-- new int[n][k] -/
theorem tt_mna {idx nn kk0 : Nat} {n k : Int32} (hd : decode M.2.1 pc = .ok (.multianewarray idx 2, 4)) (h1 : Cond.classLink M.1 idx "[[I" ∈ lw_good) (hn : ¬ n < 0) (hk : ¬ k < 0) (en : n.toNatClampNeg = nn) (ek : k.toNatClampNeg = kk0) (b1 : nn ≤ 100000) (b2 : kk0 ≤ 100000)
    (kk : TT l D M Q kc ks (pc + 4) loc (.inr (some h.length) :: st) (h ++ (.inr (.inl (8, (List.range nn).map (fun i => some (h.length + 1 + i))))) :: List.replicate nn (.inl (0, List.replicate kk0 0)))) : TT l D M Q (kc + (1 + nn)) (ks + (nn + nn * kk0)) pc loc (.inl k :: .inl n :: st) h := by
  intro p e R s m args below meth c A H0 QQ F H locs cells slots ls sv ws tys hw hl hs hc hsl K
  obtain ⟨w1, s1, e1, r1, w2, s2, e2, r2, hs⟩ := hs
  have r1 : w1 = .int k := r1
  have r2 : w2 = .int n := r2
  subst e1; subst e2; subst r1; subst r2
  obtain ⟨cy, kA, comp, f1, f2, f3⟩ := Cond.arrayClass_spec (F.2.2.2.2.1 _ ka_int)
  refine va_mna (X := ws) (L := []) (f := fun _ => .inl (0, 0, .inl fun _ => 0)) (ty := .int) (cy := cy) (N' := nn) (K' := kk0) (z := (kk0, .inl (fun _ => 0))) F.1 F.2.1 F.2.2.2.1 (F.2.2.2.2.1 _ h1) F.2.2.2.2.2.2.2.2.2.2.2.2.2.2.2.2.2 (F.2.2.2.2.1 _ ka_int) f1 hw.2.2.2.1 (by simpa [va_pl] using hw.2.1) (by simpa [va_pl] using hw.2.2.1) hw.2.2.2.2 F.2.2.2.2.2.1 hn hk en ek (by omega) (by simp [componentBytes]; omega) (by omega) rfl rfl (by omega) (by omega) (fun c => by show _ = arrV c kk0 (fun _ => Value.int 0); rw [← arrV_new]; rfl) hd ?_
  intro q r cA H1 hinj hnl hK hP hD hS
  rw [← vr_rows (by simp)] at hP hD
  simp only [va_pl, List.map_nil, List.nil_append] at hP hD
  have hK' : va_K D vwCl (tys ++ [(cA, .array .int)] ++ [(cy, .int)]) s := ⟨hK.1, fun j x hj => by
    by_cases hlt : j < (tys ++ [(cA, FieldType.array .int)]).length
    · rw [List.getElem?_append_left hlt] at hj
      exact hK.2 j x hj
    · rw [List.getElem?_append_right (by omega)] at hj
      have h0 := t_at hj
      have e0 : j - (tys ++ [(cA, FieldType.array .int)]).length = 0 := by simp at h0 ⊢; omega
      rw [e0] at hj
      cases hj
      exact ⟨fun n z => ⟨fun k h => (by cases h), kA, f2, comp, f3⟩, f1⟩⟩
  have hmap : ((ws ++ [((q, .inl (cA, nn, .inr (.inr (.inr (.inr (fun i => if i < nn then some (r i) else none)))))) : Nat × va_E)]) ++ ((List.range nn).map r).map (fun a => ((a, .inl (cy, kk0, .inl fun _ => 0)) : Nat × va_E))).map Prod.fst = ws.map Prod.fst ++ (q :: (List.range nn).map r) := by
    simp [List.map_map, Function.comp_def]
  have hp : tPre (ws.map Prod.fst) (((ws ++ [((q, .inl (cA, nn, .inr (.inr (.inr (.inr (fun i => if i < nn then some (r i) else none)))))) : Nat × va_E)]) ++ ((List.range nn).map r).map (fun a => ((a, .inl (cy, kk0, .inl fun _ => 0)) : Nat × va_E))).map Prod.fst) := ⟨_, hmap⟩
  have hHR : tHR (h ++ (.inr (.inl (8, (List.range nn).map (fun i => some (h.length + 1 + i))))) :: List.replicate nn (.inl (0, List.replicate kk0 0))) ((ws ++ [((q, .inl (cA, nn, .inr (.inr (.inr (.inr (fun i => if i < nn then some (r i) else none)))))) : Nat × va_E)]) ++ ((List.range nn).map r).map (fun a => ((a, .inl (cy, kk0, .inl fun _ => 0)) : Nat × va_E))) (tys ++ [(cA, .array .int)] ++ [(cy, .int)]) := by
    have hl1 := hw.1.1
    refine ⟨by simp [hl1], fun j x hj => ?_⟩
    by_cases hlt : j < h.length
    · rw [List.getElem?_append_left hlt] at hj
      obtain ⟨a, e', q1, q2⟩ := hw.1.2 j x hj
      refine ⟨a, e', ?_, tcr_mono hp ⟨[(cA, .array .int), (cy, .int)], by simp⟩ q2⟩
      rw [List.append_assoc, List.getElem?_append_left (by omega)]
      exact q1
    · rw [List.getElem?_append_right (by omega)] at hj
      by_cases h0 : j = h.length
      · subst h0
        simp at hj
        subst hj
        refine ⟨q, _, by rw [List.append_assoc, List.getElem?_append_right (by omega)]; simp [hl1]; rfl, cA, _, tys.length, by rw [List.length_map, List.length_range], fun j r' hj => ?_, by simp [tAty]⟩
        have hjl := t_at hj
        simp at hjl
        rw [List.getElem?_map, List.getElem?_range hjl] at hj
        simp at hj
        subst hj
        rw [if_pos hjl, hmap]
        refine ⟨r j, ?_, rfl⟩
        rw [List.getElem?_append_right (by simp [hl1]; omega)]
        have e9 : h.length + 1 + j - (ws.map Prod.fst).length = j + 1 := by simp [hl1]; omega
        rw [e9, List.getElem?_cons_succ, List.getElem?_map, List.getElem?_range hjl]
        rfl
      · obtain ⟨i, rfl⟩ : ∃ i, j = h.length + 1 + i := ⟨j - h.length - 1, by omega⟩
        have e9 : h.length + 1 + i - h.length = i + 1 := by omega
        rw [e9, List.getElem?_cons_succ] at hj
        have hil := t_at hj
        simp at hil
        have hx := t_rep hj
        subst hx
        refine ⟨r i, _, ?_, cy, tys.length + 1, Or.inl ⟨by decide, _, by rw [List.length_replicate], fun j x hj => t_rep hj, by simp [tAty]⟩⟩
        rw [List.getElem?_append_right (by simp [hl1])]
        have e8 : h.length + 1 + i - (ws ++ [((q, .inl (cA, nn, .inr (.inr (.inr (.inr (fun i => if i < nn then some (r i) else none)))))) : Nat × va_E)]).length = i := by simp [hl1]
        rw [e8, List.getElem?_map, List.getElem?_map, List.getElem?_range hil]
        rfl
  refine kk p e R s m args below meth c A H0 QQ F H1 locs _ _ ls _ _ _ ⟨hHR, hP, hD, hK', hS⟩ (tLc_mono hp hl) ⟨_, _, rfl, ?_, tsr_mono hp hs⟩ (by omega) (by omega)
    (fun a1 a2 a3 a4 a5 a6 a7 a8 a9 b1 b2 b3 q1 q2 q3 q4 q5 q6 q7 => K a1 a2 a3 a4 a5 a6 a7 a8 a9 b1 b2 b3 q1 q2 q3 q4 (hp.tr q5) (by omega) (by omega))
  refine ⟨q, ?_, rfl⟩
  rw [hmap, List.getElem?_append_right (by simp [hw.1.1])]
  simp [hw.1.1]
/-- a heap with the object at a given, and cells behind -/
def HH (h : List tC) (a ci : Nat) (fs : List tV) (cs : List tC) : List tC := h.set a (.inr (.inr (ci, fs))) ++ cs
theorem HH_at {a ci : Nat} {fs : List tV} {cs : List tC} (ha : a < h.length) : (HH h a ci fs cs)[a]? = some (.inr (.inr (ci, fs))) := by
  unfold HH
  rw [List.getElem?_append_left (by rw [List.length_set]; exact ha), List.getElem?_set_self ha]
theorem HH_len {a ci : Nat} {fs : List tV} {cs : List tC} : (HH h a ci fs cs).length = h.length + cs.length := by
  unfold HH
  rw [List.length_append, List.length_set]
theorem HH_ne {a ci k : Nat} {fs : List tV} {cs : List tC} (hk : k ≠ a) (hl : k < h.length) : (HH h a ci fs cs)[k]? = h[k]? := by
  unfold HH
  rw [List.getElem?_append_left (by rw [List.length_set]; exact hl), List.getElem?_set_ne (Ne.symm hk)]
theorem HH_new {a ci j : Nat} {fs : List tV} {cs : List tC} : (HH h a ci fs cs)[h.length + j]? = cs[j]? := by
  unfold HH
  rw [List.getElem?_append_right (by rw [List.length_set]; omega), List.length_set]
  congr 1
  omega
theorem HH_add {a ci : Nat} {fs : List tV} {cs d : List tC} : HH h a ci fs cs ++ d = HH h a ci fs (cs ++ d) := by
  unfold HH
  rw [List.append_assoc]
theorem HH_put {a ci : Nat} {fs fs' : List tV} {cs : List tC} (ha : a < h.length) : (HH h a ci fs cs).set a (.inr (.inr (ci, fs'))) = HH h a ci fs' cs := by
  unfold HH
  rw [List.set_append_left (h := by rw [List.length_set]; exact ha), List.set_set]
theorem HH_setn {a ci j : Nat} {fs : List tV} {cs : List tC} {c : tC} : (HH h a ci fs cs).set (h.length + j) c = HH h a ci fs (cs.set j c) := by
  unfold HH
  rw [List.set_append_right (h := by rw [List.length_set]; omega), List.length_set]
  congr 2
  omega
theorem HH_id {a ci : Nat} {fs : List tV} (ha : h[a]? = some (.inr (.inr (ci, fs)))) : h = HH h a ci fs [] := by
  unfold HH
  rw [List.append_nil]
  apply List.ext_getElem?
  intro k
  by_cases e : a = k
  · subst e
    rw [List.getElem?_set_self (t_at ha), ha]
  · rw [List.getElem?_set_ne e]
variable {a ci : Nat} {fs : List tV} {cs : List tC}
theorem cc_put {idx k : Nat} {ty : FieldType} {fin : Bool} {v : tV} (hd : decode M.2.1 pc = .ok (.putfield idx, 3)) (hf : tFd M.1 idx ci k ty fin) (hfin : fin = false ∨ (M.2.2.2.2.2 = true ∧ ∃ T N, vwCl[ci]? = some (M.1, T, N))) (ha : a < h.length) (hl0 : k < fs.length) (hft : tfits ty v = true) (kk : TT l D M Q kc ks (pc + 3) loc st (HH h a ci (fs.set k v) cs)) : TT l D M Q kc ks pc loc (v :: .inr (some a) :: st) (HH h a ci fs cs) :=
  tt_put hd hf hfin (HH_at ha) hl0 hft (by rw [HH_put ha]; exact kk)
theorem cc_get {idx k : Nat} {ty : FieldType} {fin : Bool} {v : tV} (hd : decode M.2.1 pc = .ok (.getfield idx, 3)) (hf : tFd M.1 idx ci k ty fin) (ha : a < h.length) (hv : fs[k]? = some v) (kk : TT l D M Q kc ks (pc + 3) loc (v :: st) (HH h a ci fs cs)) : TT l D M Q kc ks pc loc (.inr (some a) :: st) (HH h a ci fs cs) :=
  tt_get hd hf (HH_at ha) hv kk
theorem cc_newa {at0 : ArrayType} {t len : Nat} {n : Int32} (hd : decode M.2.1 pc = .ok (.newarray at0, 2)) (hty : newarray.typeOf at0 = tAty t) (h01 : t = 0 ∨ t = 1) (h1 : Cond.arrayClass (newarray.typeOf at0) ∈ lw_good) (hn : ¬ n < 0) (el : n.toNatClampNeg = len) (hb : len ≤ 100000)
    (kk : TT l D M Q kc ks (pc + 2) loc (.inr (some (h.length + cs.length)) :: st) (HH h a ci fs (cs ++ [.inl (t, List.replicate len 0)]))) : TT l D M Q (kc + 1) (ks + len) pc loc (.inl n :: st) (HH h a ci fs cs) := by
  subst el
  refine tt_newa hd hty h01 h1 hn hb ?_
  rw [HH_len, HH_add]
  exact kk
theorem cc_newq {idx t len : Nat} {C : String} {n : Int32} (hd : decode M.2.1 pc = .ok (.anewarray idx, 3)) (hty : tAty t = .object C) (h1 : Cond.classLink M.1 idx C ∈ lw_good) (ho : ∀ U, tEx U → va_AO C U) (hn : ¬ n < 0) (el : n.toNatClampNeg = len) (hb : len ≤ 100000)
    (kk : TT l D M Q kc ks (pc + 3) loc (.inr (some (h.length + cs.length)) :: st) (HH h a ci fs (cs ++ [.inr (.inl (t, List.replicate len none))]))) : TT l D M Q (kc + 1) (ks + len) pc loc (.inl n :: st) (HH h a ci fs cs) := by
  subst el
  refine tt_newq hd hty h1 ho hn hb ?_
  rw [HH_len, HH_add]
  exact kk
theorem cc_mna {idx nn kk0 : Nat} {n k : Int32} (hd : decode M.2.1 pc = .ok (.multianewarray idx 2, 4)) (h1 : Cond.classLink M.1 idx "[[I" ∈ lw_good) (hn : ¬ n < 0) (hk : ¬ k < 0) (en : n.toNatClampNeg = nn) (ek : k.toNatClampNeg = kk0) (b1 : nn ≤ 100000) (b2 : kk0 ≤ 100000) {c1 s1 : Nat} (e1 : c1 = 1 + nn) (e2 : s1 = nn + nn * kk0)
    (kk : TT l D M Q kc ks (pc + 4) loc (.inr (some (h.length + cs.length)) :: st) (HH h a ci fs (cs ++ (.inr (.inl (8, (List.range nn).map (fun i => some (h.length + cs.length + 1 + i))))) :: List.replicate nn (.inl (0, List.replicate kk0 0))))) : TT l D M Q (kc + c1) (ks + s1) pc loc (.inl k :: .inl n :: st) (HH h a ci fs cs) := by
  subst e1; subst e2
  refine tt_mna hd h1 hn hk en ek b1 b2 ?_
  rw [HH_len, HH_add]
  exact kk
-- typing what was made
theorem conf_as {τ τ' : List Nat} (hp : ∀ (q r : Nat), r ≠ 29 → τ[q]? = some r → τ'[q]? = some r) {r : Nat} {c : tC} (h : conf N pk τ r c) : conf N pk τ' r c := by
  have vt : ∀ {ft : tF} {v : tV}, (∀ r nu, ft = .inr (r, nu) → r ≠ 29) → vty τ ft v → vty τ' ft v := by
    intro ft v hf h
    match ft, v, h, hf with
    | .inl (lo, hi), .inl x, h, _ => exact h
    | .inr (r, nu), .inr none, h, _ => exact h
    | .inr (r, nu), .inr (some q), h, hf => exact hp q r (hf r nu rfl) h
  have at29 : ∀ {r t len : Nat} {ft : tF}, ats N r = some (t, len, ft) → ∀ r' nu, ft = .inr (r', nu) → r' ≠ 29 := by
    intro r t len ft e r' nu e'
    subst e'
    unfold ats at e
    split at e <;> cases e <;> decide
  have fs29 : ∀ {ci j : Nat} {ft : tF}, (fts N pk ci)[j]? = some ft → ∀ r' nu, ft = .inr (r', nu) → r' ≠ 29 := by
    intro ci j ft e r' nu e'
    subst e'
    have hm := List.mem_of_getElem? e
    unfold fts at hm
    split at hm <;> simp at hm <;> omega
  match c, h with
  | .inl (t, xs), ⟨h1, len, ft, h2, h3, h4⟩ => exact ⟨h1, len, ft, h2, h3, fun x hx => vt (at29 h2) (h4 x hx)⟩
  | .inr (.inl (t, rs)), ⟨h1, ⟨len, ft, h2, h3, h4⟩, h5⟩ => exact ⟨h1, ⟨len, ft, h2, h3, fun q hq => vt (at29 h2) (h4 q hq)⟩, h5⟩
  | .inr (.inr (ci, fs)), ⟨h1, h2, h3, h4, h5⟩ => exact ⟨h1, h2, h3, fun j ft v hj hv => vt (fs29 hj) (h4 j ft v hj hv), h5⟩
/-- roles of which there may be many -/
abbrev manyR (r : Nat) : Prop := r < 6 ∨ (12 ≤ r ∧ r < 30)
/-- cells more -/
theorem wt_addL (hw : WT N pk τ h) {ρ : List Nat} {cs : List tC} (hlen : cs.length = ρ.length) (hr : ∀ r ∈ ρ, manyR r) (hc : ∀ (j r : Nat) (c : tC), ρ[j]? = some r → cs[j]? = some c → r ≠ 29 → conf N pk (τ ++ ρ) r c) : WT N pk (τ ++ ρ) (h ++ cs) := by
  have hp : tPre τ (τ ++ ρ) := ⟨ρ, rfl⟩
  have key : ∀ {k r' : Nat}, (τ ++ ρ)[k]? = some r' → ¬ manyR r' → τ[k]? = some r' := by
    intro k r' hk hne
    by_cases hl : k < τ.length
    · rw [List.getElem?_append_left hl] at hk
      exact hk
    · rw [List.getElem?_append_right (by omega)] at hk
      exact absurd (hr r' (List.mem_of_getElem? hk)) hne
  have old : ∀ {k r' : Nat} {c' : tC}, τ[k]? = some r' → (h ++ cs)[k]? = some c' → h[k]? = some c' := by
    intro k r' c' hk hc'
    rw [List.getElem?_append_left (by rw [hw.1]; exact t_at hk)] at hc'
    exact hc'
  refine ⟨by simp [hw.1, hlen], fun k r' c' hk hc' h29 => ?_, fun ka kw kv xs ys zs h1 h2 h3 g1 g2 g3 => ?_, fun k k' r' h30 h1 h2 => ?_⟩
  · by_cases hl : k < τ.length
    · rw [List.getElem?_append_left hl] at hk
      exact conf_up hp (hw.2.1 k r' c' hk (old hk hc') h29)
    · rw [List.getElem?_append_right (by omega)] at hk
      rw [List.getElem?_append_right (by rw [hw.1]; omega), hw.1] at hc'
      exact hc _ r' c' hk hc' h29
  · have h1' := key h1 (by decide)
    have h2' := key h2 (by decide)
    have h3' := key h3 (by decide)
    exact hw.2.2.1 ka kw kv xs ys zs h1' h2' h3' (old h1' g1) (old h2' g2) (old h3' g3)
  · have nm : ¬ manyR r' := by unfold manyR; omega
    exact hw.2.2.2 k k' r' h30 (key h1 nm) (key h2 nm)
/-- what was not whole is whole -/
theorem wt_born (hw : WT N pk τ h) {a r : Nat} {c : tC} (ht : τ[a]? = some 29) (hr : manyR r) (hc : conf N pk (τ.set a r) r c) : WT N pk (τ.set a r) (h.set a c) := by
  have lt := t_at ht
  have key : ∀ {k r' : Nat}, (τ.set a r)[k]? = some r' → ¬ manyR r' → τ[k]? = some r' ∧ a ≠ k := by
    intro k r' hk hne
    by_cases e : a = k
    · subst e
      rw [List.getElem?_set_self lt] at hk
      cases hk
      exact absurd hr hne
    · rw [List.getElem?_set_ne e] at hk
      exact ⟨hk, e⟩
  refine ⟨by simp [hw.1], fun k r' c' hk hc' h29 => ?_, fun ka kw kv xs ys zs h1 h2 h3 g1 g2 g3 => ?_, fun k k' r' h30 h1 h2 => ?_⟩
  · by_cases e : a = k
    · subst e
      rw [List.getElem?_set_self lt] at hk
      rw [List.getElem?_set_self (by rw [hw.1]; exact lt)] at hc'
      cases hk; cases hc'
      exact hc
    · rw [List.getElem?_set_ne e] at hk hc'
      refine conf_as (fun q r'' h9 hq => ?_) (hw.2.1 k r' c' hk hc' h29)
      rw [List.getElem?_set_ne (fun z => by subst z; rw [ht] at hq; cases hq; exact h9 rfl)]
      exact hq
  · have h1' := key h1 (by decide)
    have h2' := key h2 (by decide)
    have h3' := key h3 (by decide)
    rw [List.getElem?_set_ne h1'.2] at g1
    rw [List.getElem?_set_ne h2'.2] at g2
    rw [List.getElem?_set_ne h3'.2] at g3
    exact hw.2.2.1 ka kw kv xs ys zs h1'.1 h2'.1 h3'.1 g1 g2 g3
  · have nm : ¬ manyR r' := by unfold manyR; omega
    exact hw.2.2.2 k k' r' h30 (key h1 nm).1 (key h2 nm).1
end TCT
