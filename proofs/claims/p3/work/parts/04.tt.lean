/-! A SMALL MACHINE over the kit's: values are ints or places of a list of cells; TT is what a frame comes to, for every real state that the small one pictures. -/
abbrev tV : Type := Int32 ⊕ Option Nat
abbrev tC : Type := (Nat × List Int32) ⊕ ((Nat × List (Option Nat)) ⊕ (Nat × List tV))
abbrev tL : Type := List (Nat × tV)
def tAty : Nat → FieldType
  | 0 => .int
  | 1 => .boolean
  | 2 => .object RX4
  | 3 => .object RX0
  | 4 => .object RX3
  | 5 => .object RX5
  | 6 => .object RX2
  | 7 => .object RX1
  | _ => .array .int
def tvr (as : List Nat) (v : tV) (w : Value) : Prop := match v with
  | .inl x => w = .int x
  | .inr none => w = .null
  | .inr (some k) => ∃ a : Nat, as[k]? = some a ∧ w = .ref a
def tsr (as : List Nat) : List tV → List Value → Prop
  | [], vs => vs = []
  | v :: st, vs => ∃ (w : Value) (ws : List Value), vs = w :: ws ∧ tvr as v w ∧ tsr as st ws
def tcr (as : List Nat) (tys : List (ClassId × FieldType)) (c : tC) (e : va_E) : Prop := match c with
  | .inl (t, xs) => ∃ (cA : ClassId) (t0 : Nat), (t ≠ 9 ∧ ∃ f : Nat → Int32, e = .inl (cA, xs.length, .inl f) ∧ (∀ (j : Nat) (x : Int32), xs[j]? = some x → f j = x) ∧ tys[t0]? = some (cA, tAty t)) ∨ (t = 9 ∧ ∃ f : Nat → Int64, e = .inl (cA, xs.length, .inr (.inl f)) ∧ (∀ (j : Nat) (x : Int32), xs[j]? = some x → f j = x.toInt64) ∧ tys[t0]? = some (cA, .long))
  | .inr (.inl (t, rs)) => ∃ (cA : ClassId) (f : Nat → Option Nat) (t0 : Nat), e = .inl (cA, rs.length, .inr (.inr (.inr (.inr f)))) ∧ (∀ (j : Nat) (r : Option Nat), rs[j]? = some r → tvr as (.inr r) (va_rf (f j))) ∧ tys[t0]? = some (cA, tAty t)
  | .inr (.inr (k, fs)) => ∃ vs : List Value, e = .inr (k, vs) ∧ tsr as fs vs
def tHR (h : List tC) (ws : va_W) (tys : List (ClassId × FieldType)) : Prop := ws.length = h.length ∧ ∀ (k : Nat) (c : tC), h[k]? = some c → ∃ (a : Nat) (e : va_E), ws[k]? = some (a, e) ∧ tcr (ws.map Prod.fst) tys c e
def tWd (D : va_G) (A : Nat → Prop) (H0 : Heap) (s : State) (h : List tC) (ws : va_W) (tys : List (ClassId × FieldType)) (H : Heap) (locs : List Loc) : Prop :=
  tHR h ws tys ∧ va_P D vwCl ws H ∧ va_D A ws ∧ va_K D vwCl tys s ∧ va_S A H0 H locs
def tLc (as : List Nat) (loc : tL) (nL : Nat) (ls : Array Slot) : Prop := ∃ lv : List (Nat × Value), lv_has ls nL lv ∧ ∀ q ∈ loc, ∃ w : Value, (q.1, w) ∈ lv ∧ tvr as q.2 w
def tSt (loc : tL) (i : Nat) (v : tV) : tL := (i, v) :: loc.filter (fun q => !(q.1 == i))
/-- own, bytes, maxL, frames, locals, is it a constructor -/
abbrev tM : Type := String × ByteArray × Nat × Nat × Nat × Bool
def tEx (U : State) : Prop := va_Nw (.methodLinkNest RX6 34 yX1_init RX6) U ∧ va_Nw (.methodLinkNest RX2 24 yX1_init RX6) U ∧ va_AO RX4 U ∧ va_AO RX0 U ∧ va_AO RX3 U ∧ va_AO RX5 U ∧ va_AO RX2 U ∧ va_AO RX1 U ∧ va_AOA .int U
def tFx (p : Program) (l : Launch) (R : Room) (s : State) (m : MethodId) (args : Array Value) (meth : Method) (c : Code) (A : Nat → Prop) (H0 : Heap) (M : tM) : Prop :=
  p.tables.exec = Jvm.exec ∧ c.code = M.2.1 ∧ c.maxLocals = M.2.2.1 ∧ s.vm.findClass M.1 = some m.cls ∧ (∀ w ∈ lw_good, w.before args s = true) ∧ (∀ q, H0.size ≤ q → A q) ∧ M.2.2.2.1 ≤ R.frames ∧ M.2.2.2.2.1 ≤ R.locals ∧ (M.2.2.2.2.2 = true → meth.name = "<init>") ∧ tEx s
def tPre (a b : List Nat) : Prop := ∃ r, b = a ++ r
def TT (l : Launch) (D : va_G) (M : tM) (Q : Nat → tL → List tV → List tC → Prop) (kc ks pc : Nat) (loc : tL) (st : List tV) (h : List tC) : Prop :=
  ∀ (p : Program) (e : Env) (R : Room) (s : State) (m : MethodId) (args : Array Value) (below : List Frame) (meth : Method) (c : Code) (A : Nat → Prop) (H0 : Heap) (QQ : State → Prop), tFx p l R s m args meth c A H0 M →
  ∀ (H : Heap) (locs : List Loc) (cells slots : Nat) (ls : Array Slot) (sv : List Value) (ws : va_W) (tys : List (ClassId × FieldType)), tWd D A H0 s h ws tys H locs → tLc (ws.map Prod.fst) loc M.2.2.1 ls → tsr (ws.map Prod.fst) st sv → cells + kc ≤ R.cells → slots + ks ≤ R.slots →
  (∀ (pc' : Nat) (loc' : tL) (st' : List tV) (h' : List tC) (H' : Heap) (locs' : List Loc) (cells' slots' : Nat) (ls' : Array Slot) (sv' : List Value) (ws' : va_W) (tys' : List (ClassId × FieldType)), Q pc' loc' st' h' → tWd D A H0 s h' ws' tys' H' locs' → tLc (ws'.map Prod.fst) loc' M.2.2.1 ls' → tsr (ws'.map Prod.fst) st' sv' → tPre (ws.map Prod.fst) (ws'.map Prod.fst) → cells' ≤ cells + kc → slots' ≤ slots + ks →
    W p l e R s m args below meth c H' locs' cells' slots' QQ (F0 m pc' ls' sv')) →
  W p l e R s m args below meth c H locs cells slots QQ (F0 m pc ls sv)
-- the relations, when cells are written and added
theorem tvr_mono {a b : List Nat} (h : tPre a b) {v : tV} {w : Value} (hv : tvr a v w) : tvr b v w := by
  obtain ⟨r, rfl⟩ := h
  match v, hv with
  | .inl _, hv => exact hv
  | .inr none, hv => exact hv
  | .inr (some k), ⟨x, h1, h2⟩ => exact ⟨x, by rw [List.getElem?_append_left (List.getElem?_eq_some_iff.mp h1).1]; exact h1, h2⟩
theorem tsr_mono {a b : List Nat} (h : tPre a b) : ∀ {st : List tV} {sv : List Value}, tsr a st sv → tsr b st sv
  | [], _, hs => hs
  | _ :: _, _, ⟨w, ws, e, h1, h2⟩ => ⟨w, ws, e, tvr_mono h h1, tsr_mono h h2⟩
theorem tLc_mono {a b : List Nat} (h : tPre a b) {loc : tL} {nL : Nat} {ls : Array Slot} (hl : tLc a loc nL ls) : tLc b loc nL ls := by
  obtain ⟨lv, h1, h2⟩ := hl
  exact ⟨lv, h1, fun q hq => by obtain ⟨w, x, y⟩ := h2 q hq; exact ⟨w, x, tvr_mono h y⟩⟩
theorem tPre.rf (a : List Nat) : tPre a a := ⟨[], by simp⟩
theorem tPre.tr {a b c : List Nat} (h1 : tPre a b) (h2 : tPre b c) : tPre a c := by
  obtain ⟨r, rfl⟩ := h1
  obtain ⟨r', rfl⟩ := h2
  exact ⟨r ++ r', by simp⟩
theorem tcr_mono {a b : List Nat} (h : tPre a b) {t1 t2 : List (ClassId × FieldType)} (ht : ∃ r, t2 = t1 ++ r) {c : tC} {e : va_E} (hc : tcr a t1 c e) : tcr b t2 c e := by
  obtain ⟨r, rfl⟩ := ht
  have ap : ∀ (t0 : Nat) (x : ClassId × FieldType), t1[t0]? = some x → (t1 ++ r)[t0]? = some x := fun t0 x hx => by rw [List.getElem?_append_left (List.getElem?_eq_some_iff.mp hx).1]; exact hx
  match c, hc with
  | .inl (t, xs), ⟨cA, t0, Or.inl ⟨h0, f, h1, h2, h3⟩⟩ => exact ⟨cA, t0, Or.inl ⟨h0, f, h1, h2, ap _ _ h3⟩⟩
  | .inl (t, xs), ⟨cA, t0, Or.inr ⟨h0, f, h1, h2, h3⟩⟩ => exact ⟨cA, t0, Or.inr ⟨h0, f, h1, h2, ap _ _ h3⟩⟩
  | .inr (.inl (t, rs)), ⟨cA, f, t0, h1, h2, h3⟩ => exact ⟨cA, f, t0, h1, fun j r hj => tvr_mono h (h2 j r hj), ap _ _ h3⟩
  | .inr (.inr (k, fs)), ⟨vs, h1, h2⟩ => exact ⟨vs, h1, tsr_mono h h2⟩
theorem tHR.add {h : List tC} {ws : va_W} {tys : List (ClassId × FieldType)} (hr : tHR h ws tys) {q : Nat} {e : va_E} {c : tC} {t2 : List (ClassId × FieldType)} (ht : ∃ r, t2 = tys ++ r) (hc : tcr ((ws ++ [(q, e)]).map Prod.fst) t2 c e) : tHR (h ++ [c]) (ws ++ [(q, e)]) t2 := by
  refine ⟨by simp [hr.1], fun k x hk => ?_⟩
  by_cases hl : k < h.length
  · rw [List.getElem?_append_left hl] at hk
    obtain ⟨a, e', h1, h2⟩ := hr.2 k x hk
    exact ⟨a, e', by rw [List.getElem?_append_left (by rw [hr.1]; exact hl)]; exact h1, tcr_mono ⟨[q], by simp⟩ ht h2⟩
  · rw [List.getElem?_append_right (by omega)] at hk
    have h0 : k - h.length < 1 := (List.getElem?_eq_some_iff.mp hk).1
    have e0 : k = h.length := by omega
    subst e0
    simp at hk
    subst hk
    exact ⟨q, e, by rw [List.getElem?_append_right (by rw [hr.1]; exact Nat.le_refl _), hr.1]; simp, hc⟩
theorem tHR.put {h : List tC} {ws : va_W} {tys : List (ClassId × FieldType)} (hr : tHR h ws tys) {k a : Nat} {e e' : va_E} {c : tC} (hk : ws[k]? = some (a, e)) (hc : tcr (ws.map Prod.fst) tys c e') : tHR (h.set k c) (ws.set k (a, e')) tys := by
  have hm : (ws.set k (a, e')).map Prod.fst = ws.map Prod.fst := by
    rw [List.map_set]
    apply List.ext_getElem?
    intro j
    rw [List.getElem?_set]
    split
    · rename_i hj
      subst hj
      simp [hk]
      exact (List.getElem?_eq_some_iff.mp hk).1
    · rfl
  refine ⟨by simp [hr.1], fun j x hj => ?_⟩
  rw [hm]
  by_cases hkj : k = j
  · subst hkj
    have hlt : k < h.length := by rw [← hr.1]; exact (List.getElem?_eq_some_iff.mp hk).1
    rw [List.getElem?_set_self hlt] at hj
    cases hj
    exact ⟨a, e', by rw [List.getElem?_set_self (by rw [hr.1]; exact hlt)], hc⟩
  · rw [List.getElem?_set_ne hkj] at hj
    obtain ⟨a2, e2, h1, h2⟩ := hr.2 j x hj
    exact ⟨a2, e2, by rw [List.getElem?_set_ne hkj]; exact h1, h2⟩
theorem tfst_set {ws : va_W} {k a : Nat} {e e' : va_E} (hk : ws[k]? = some (a, e)) : (ws.set k (a, e')).map Prod.fst = ws.map Prod.fst := by
  rw [List.map_set]
  apply List.ext_getElem?
  intro j
  rw [List.getElem?_set]
  split
  · rename_i hj
    subst hj
    simp [hk]
    exact (List.getElem?_eq_some_iff.mp hk).1
  · rfl
/-- a place's address -/
theorem tvr_ref {ws : va_W} {k : Nat} {w : Value} (h : tvr (ws.map Prod.fst) (.inr (some k)) w) : ∃ (a : Nat) (e : va_E), ws[k]? = some (a, e) ∧ w = .ref a := by
  obtain ⟨a, h1, h2⟩ := h
  rw [List.getElem?_map] at h1
  cases hx : ws[k]? with
  | none => rw [hx] at h1; cases h1
  | some x => rw [hx] at h1; cases h1; exact ⟨x.1, x.2, rfl, h2⟩
theorem tvr_cat {as : List Nat} {v : tV} {w : Value} (h : tvr as v w) : w.category = 1 := by
  match v, h with
  | .inl _, h => rw [h]; rfl
  | .inr none, h => rw [h]; rfl
  | .inr (some k), ⟨a, _, h⟩ => rw [h]; rfl
theorem tsr_cat {as : List Nat} : ∀ {st : List tV} {sv : List Value}, tsr as st sv → (sv.map fun v => v.category).sum = st.length
  | [], _, h => by rw [h]; rfl
  | _ :: _, _, ⟨w, ws, e, h1, h2⟩ => by rw [e, List.map_cons, List.sum_cons, tvr_cat h1, tsr_cat h2, List.length_cons]; omega
theorem tsr_len {as : List Nat} : ∀ {st : List tV} {sv : List Value}, tsr as st sv → sv.length = st.length
  | [], _, h => by rw [h]; rfl
  | _ :: _, _, ⟨w, ws, e, h1, h2⟩ => by rw [e, List.length_cons, List.length_cons, tsr_len h2]
theorem tsr_app {as : List Nat} : ∀ {a b : List tV} {sv : List Value}, tsr as (a ++ b) sv → ∃ x y, sv = x ++ y ∧ tsr as a x ∧ tsr as b y
  | [], _, sv, h => ⟨[], sv, rfl, rfl, h⟩
  | _ :: _, _, _, ⟨w, ws, e, h1, h2⟩ => by
    obtain ⟨x, y, e1, e2, e3⟩ := tsr_app h2
    exact ⟨w :: x, y, by rw [e, e1]; rfl, ⟨w, x, rfl, h1, e2⟩, e3⟩
theorem tsr_join {as : List Nat} : ∀ {a b : List tV} {x y : List Value}, tsr as a x → tsr as b y → tsr as (a ++ b) (x ++ y)
  | [], _, _, _, h, h' => by rw [h]; exact h'
  | _ :: _, _, _, _, ⟨w, ws, e, h1, h2⟩, h' => ⟨w, ws ++ _, by rw [e]; rfl, h1, tsr_join h2 h'⟩
theorem tsr_rev {as : List Nat} : ∀ {a : List tV} {x : List Value}, tsr as a x → tsr as a.reverse x.reverse
  | [], _, h => by rw [h]; rfl
  | v :: a, _, ⟨w, ws, e, h1, h2⟩ => by
    rw [e, List.reverse_cons, List.reverse_cons]
    exact tsr_join (tsr_rev h2) ⟨w, [], rfl, h1, rfl⟩
theorem tsr_at {as : List Nat} : ∀ {st : List tV} {sv : List Value} {k : Nat} {v : tV}, tsr as st sv → st[k]? = some v → ∃ w, sv[k]? = some w ∧ tvr as v w
  | [], _, _, _, _, hk => by simp at hk
  | x :: st, _, 0, v, ⟨w, ws, e, h1, h2⟩, hk => ⟨w, by rw [e]; rfl, by simp at hk; subst hk; exact h1⟩
  | x :: st, _, k + 1, v, ⟨w, ws, e, h1, h2⟩, hk => by
    obtain ⟨w', a, b⟩ := tsr_at h2 (k := k) (v := v) (by simpa using hk)
    exact ⟨w', by rw [e]; simpa using a, b⟩
theorem tsr_set {as : List Nat} : ∀ {st : List tV} {sv : List Value} (k : Nat) {v : tV} {w : Value}, tsr as st sv → tvr as v w → tsr as (st.set k v) (sv.set k w)
  | [], _, _, _, _, h, _ => by rw [h]; simp; rfl
  | x :: st, _, 0, v, w', ⟨w, ws, e, h1, h2⟩, hv => ⟨w', ws, by rw [e]; rfl, hv, h2⟩
  | x :: st, _, k + 1, v, w', ⟨w, ws, e, h1, h2⟩, hv => ⟨w, ws.set k w', by rw [e]; rfl, h1, tsr_set k h2 hv⟩
theorem tLc_at {as : List Nat} {loc : tL} {nL : Nat} {ls : Array Slot} (hl : tLc as loc nL ls) {i : Nat} {v : tV} (hm : (i, v) ∈ loc) : ∃ w, ls[i]? = some (.val w) ∧ tvr as v w := by
  obtain ⟨lv, h1, h2⟩ := hl
  obtain ⟨w, h3, h4⟩ := h2 _ hm
  exact ⟨w, h1.2.2 _ h3, h4⟩
theorem tLc_st {as : List Nat} {loc : tL} {lv : List (Nat × Value)} (h2 : ∀ q ∈ loc, ∃ w : Value, (q.1, w) ∈ lv ∧ tvr as q.2 w) {i : Nat} {v : tV} {w : Value} (hv : tvr as v w) : ∀ q ∈ tSt loc i v, ∃ w' : Value, (q.1, w') ∈ (i, w) :: lv.filter (fun q => !(q.1 == i) && !(q.1 + 1 == i && q.2.category == 2)) ∧ tvr as q.2 w' := by
  intro q hq
  rcases List.mem_cons.mp hq with rfl | hq
  · exact ⟨w, List.mem_cons_self, hv⟩
  · obtain ⟨h3, h4⟩ := List.mem_filter.mp hq
    obtain ⟨w', h5, h6⟩ := h2 q h3
    refine ⟨w', List.mem_cons_of_mem _ (List.mem_filter.mpr ⟨h5, ?_⟩), h6⟩
    have hc := tvr_cat h6
    have h4' : (q.1 == i) = false := by simpa using h4
    simp [h4', hc]
