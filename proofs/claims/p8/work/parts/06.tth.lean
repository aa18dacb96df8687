section TTH
variable {l : Launch} {D : va_G} {M : tM} {Q : Nat → tL → List tV → List tC → Prop} {kc ks pc : Nat} {loc : tL} {st : List tV} {h : List tC}
/-- what the tables say of a kind of object -/
def tCl (ci : Nat) (C : String) (T : u_T) (N : Nat) : Prop := vwCl[ci]? = some (C, T, N) ∧ (∀ w ∈ u_ws C T N, w ∈ lw_good) ∧ (∃ ty0 : Nat → FieldType, ∀ k, k < N → parseFieldDescriptor (T k).2.2.1 = some (ty0 k)) ∧ ∀ a, a < N → ∀ b, b < N → a ≠ b → (T a).2.1 ≠ (T b).2.1
def tFd (own : String) (index ci k : Nat) (ty : FieldType) (fin : Bool) : Prop := ∃ (C : String) (T : u_T) (N : Nat), tCl ci C T N ∧ k < N ∧ Cond.fieldLink own index (T k).1 (T k).2.1 (T k).2.2.1 ∈ lw_good ∧ parseFieldDescriptor (T k).2.2.1 = some ty ∧ (T k).2.2.2 = fin ∧ (T k).1 = C
def tfits (ty : FieldType) (v : tV) : Bool := match ty, v with
  | .int, .inl _ => true
  | .boolean, .inl x => x == 0 || x == 1
  | .object _, .inr _ => true
  | .array _, .inr _ => true
  | _, _ => false
theorem tfits_ok {as : List Nat} {ty : FieldType} {v : tV} {w : Value} (h : tfits ty v = true) (hv : tvr as v w) : narrow ty w = w ∧ fits ty w = true := by
  match v, hv with
  | .inl x, hv =>
    have hv : w = .int x := hv
    subst hv
    cases ty <;> simp [tfits] at h <;> first | exact ⟨rfl, rfl⟩ | (rcases h with rfl | rfl <;> exact ⟨rfl, rfl⟩)
  | .inr none, hv =>
    have hv : w = .null := hv
    subst hv
    cases ty <;> simp [tfits] at h <;> exact ⟨rfl, rfl⟩
  | .inr (some k), ⟨a, _, hv⟩ =>
    subst hv
    cases ty <;> simp [tfits] at h <;> exact ⟨rfl, rfl⟩
theorem tobj {ws : va_W} {tys : List (ClassId × FieldType)} (hr : tHR h ws tys) {a ci : Nat} {fs : List tV} (ha : h[a]? = some (.inr (.inr (ci, fs)))) {w : Value} (hv : tvr (ws.map Prod.fst) (.inr (some a)) w) : ∃ (q : Nat) (vs : List Value), w = .ref q ∧ ws[a]? = some (q, .inr (ci, vs)) ∧ tsr (ws.map Prod.fst) fs vs := by
  obtain ⟨q, e, h1, h2⟩ := tvr_ref hv
  obtain ⟨q', e', h3, vs, h4, h5⟩ := hr.2 _ _ ha
  rw [h1] at h3
  cases h3
  exact ⟨q, vs, h2, by rw [h1, h4], h5⟩
theorem tint {ws : va_W} {tys : List (ClassId × FieldType)} (hr : tHR h ws tys) {a t : Nat} {xs : List Int32} (ha : h[a]? = some (.inl (t, xs))) {w : Value} (ht : t ≠ 9) (hv : tvr (ws.map Prod.fst) (.inr (some a)) w) : ∃ (q : Nat) (cA : ClassId) (f : Nat → Int32) (t0 : Nat), w = .ref q ∧ ws[a]? = some (q, .inl (cA, xs.length, .inl f)) ∧ (∀ (j : Nat) (x : Int32), xs[j]? = some x → f j = x) ∧ tys[t0]? = some (cA, tAty t) := by
  obtain ⟨q, e, h1, h2⟩ := tvr_ref hv
  obtain ⟨q', e', h3, cA, t0, hd⟩ := hr.2 _ _ ha
  obtain ⟨f, h4, h5, h6⟩ := hd.elim (fun x => x.2) (fun z => absurd z.1 ht)
  rw [h1] at h3
  cases h3
  exact ⟨q, cA, f, t0, h2, by rw [h1, h4], h5, h6⟩
theorem tarr {ws : va_W} {tys : List (ClassId × FieldType)} (hr : tHR h ws tys) {a t : Nat} {rs : List (Option Nat)} (ha : h[a]? = some (.inr (.inl (t, rs)))) {w : Value} (hv : tvr (ws.map Prod.fst) (.inr (some a)) w) : ∃ (q : Nat) (cA : ClassId) (f : Nat → Option Nat) (t0 : Nat), w = .ref q ∧ ws[a]? = some (q, .inl (cA, rs.length, .inr (.inr (.inr (.inr f))))) ∧ (∀ (j : Nat) (r : Option Nat), rs[j]? = some r → tvr (ws.map Prod.fst) (.inr r) (va_rf (f j))) ∧ tys[t0]? = some (cA, tAty t) := by
  obtain ⟨q, e, h1, h2⟩ := tvr_ref hv
  obtain ⟨q', e', h3, cA, f, t0, h4, h5, h6⟩ := hr.2 _ _ ha
  rw [h1] at h3
  cases h3
  exact ⟨q, cA, f, t0, h2, by rw [h1, h4], h5, h6⟩
theorem tt_get {idx ci k a : Nat} {ty : FieldType} {fin : Bool} {fs : List tV} {v : tV} (hd : decode M.2.1 pc = .ok (.getfield idx, 3)) (hf : tFd M.1 idx ci k ty fin) (ha : h[a]? = some (.inr (.inr (ci, fs)))) (hv : fs[k]? = some v) (kk : TT l D M Q kc ks (pc + 3) loc (v :: st) h) : TT l D M Q kc ks pc loc (.inr (some a) :: st) h := by
  intro p e R s m args below meth c A H0 QQ F H locs cells slots ls sv ws tys hw hl hs hc hsl K
  obtain ⟨w1, s1, e1, r1, hs⟩ := hs
  subst e1
  obtain ⟨C, T, N, ⟨hC, hin, -, -⟩, hk, hlk, -, -, -⟩ := hf
  obtain ⟨q, vs, h1, h2, h3⟩ := tobj hw.1 ha r1
  subst h1
  obtain ⟨w, h4, h5⟩ := tsr_at h3 hv
  exact va_get F.1 F.2.1 F.2.2.2.2.1 hin F.2.2.2.1 hw.2.2.2.1 hw.2.1 a h2 hC k hk (F.2.2.2.2.1 _ hlk) (fun _ z => z) h4 hd (kk p e R s m args below meth c A H0 QQ F H locs cells slots ls _ ws tys hw hl ⟨_, _, rfl, h5, hs⟩ hc hsl K)
/-- behind a write to place a -/
theorem tWd.put {A : Nat → Prop} {H0 H H1 : Heap} {s : State} {ws : va_W} {tys : List (ClassId × FieldType)} {locs locs1 : List Loc} (hw : tWd D A H0 s h ws tys H locs) {a q : Nat} {e e' : va_E} {x : tC} (ha : ws[a]? = some (q, e)) (hx : tcr (ws.map Prod.fst) tys x e') (hP : va_P D vwCl (ws.set a (q, e')) H1) (hD : va_D A (ws.set a (q, e'))) (hS : va_S A H0 H1 locs1) : tWd D A H0 s (h.set a x) (ws.set a (q, e')) tys H1 locs1 :=
  ⟨hw.1.put ha hx, hP, hD, hw.2.2.2.1, hS⟩
theorem tt_put {idx ci k a : Nat} {ty : FieldType} {fin : Bool} {fs : List tV} {v : tV} (hd : decode M.2.1 pc = .ok (.putfield idx, 3)) (hf : tFd M.1 idx ci k ty fin) (hfin : fin = false ∨ (M.2.2.2.2.2 = true ∧ ∃ T N, vwCl[ci]? = some (M.1, T, N))) (ha : h[a]? = some (.inr (.inr (ci, fs)))) (hl0 : k < fs.length) (hft : tfits ty v = true) (kk : TT l D M Q kc ks (pc + 3) loc st (h.set a (.inr (.inr (ci, fs.set k v))))) : TT l D M Q kc ks pc loc (v :: .inr (some a) :: st) h := by
  intro p e R s m args below meth c A H0 QQ F H locs cells slots ls sv ws tys hw hl hs hc hsl K
  obtain ⟨w1, s1, e1, r1, w2, s2, e2, r2, hs⟩ := hs
  subst e1; subst e2
  obtain ⟨C, T, N, ⟨hC, hin, ⟨ty0, hty⟩, hnm⟩, hk, hlk, hpd, hfn, hTC⟩ := hf
  obtain ⟨q, vs, h1, h2, h3⟩ := tobj hw.1 ha r2
  subst h1
  obtain ⟨n1, n2⟩ := tfits_ok hft r1
  have hlv : k < vs.length := by rw [tsr_len h3]; exact hl0
  have go : ∀ (H1 : Heap) (locs1 : List Loc), va_P D vwCl (ws.set a (q, .inr (ci, vs.set k w1))) H1 → va_D A (ws.set a (q, .inr (ci, vs.set k w1))) → va_S A H0 H1 locs1 → W p l e R s m args below meth c H1 locs1 cells slots QQ (F0 m (pc + 3) ls s2) := by
    intro H1 locs1 hP hD hS
    have hm := tfst_set (e' := .inr (ci, vs.set k w1)) h2
    refine kk p e R s m args below meth c A H0 QQ F H1 locs1 cells slots ls _ _ tys (hw.put (x := .inr (.inr (ci, fs.set k v))) h2 ⟨_, rfl, tsr_set k h3 r1⟩ hP hD hS) (by rw [hm]; exact hl) (by rw [hm]; exact hs) hc hsl (by rw [hm]; exact K)
  cases fin with
  | false => exact va_put F.1 F.2.1 F.2.2.2.2.1 hin ty0 hty hnm F.2.2.2.1 hw.2.2.2.1 hw.2.1 hw.2.2.1 hw.2.2.2.2 a h2 hC k hk (F.2.2.2.2.1 _ hlk) (fun _ z => z) hfn hpd n1 n2 hlv hd go
  | true =>
    obtain ⟨hi, T', N', hC'⟩ := hfin.resolve_left (by simp)
    have hCM : C = M.1 := by rw [hC] at hC'; cases hC'; rfl
    exact va_putF F.1 F.2.1 F.2.2.2.2.1 hin ty0 hty hnm F.2.2.2.1 hw.2.2.2.1 hw.2.1 hw.2.2.1 hw.2.2.2.2 a h2 hC k hk (F.2.2.2.2.1 _ hlk) (fun _ z => z) hfn (F.2.2.2.2.2.2.2.2.1 hi) (hTC.trans hCM) hpd n1 n2 hlv hd go
theorem t_in {i : Int32} {n : Nat} (h0 : ¬ i < 0) (h1 : i.toNatClampNeg < n) : vp_in i n := fun z => z.elim h0 (fun y => absurd h1 (Nat.not_lt.mpr y))
theorem t_at {α : Type} {xs : List α} {i : Nat} {x : α} (h : xs[i]? = some x) : i < xs.length := (List.getElem?_eq_some_iff.mp h).1
theorem tt_iald {a : Nat} {xs : List Int32} {i x : Int32} (hd : decode M.2.1 pc = .ok (.iaload, 1)) (ha : h[a]? = some (.inl (0, xs))) (h0 : ¬ i < 0) (hx : xs[i.toNatClampNeg]? = some x) (kk : TT l D M Q kc ks (pc + 1) loc (.inl x :: st) h) : TT l D M Q kc ks pc loc (.inl i :: .inr (some a) :: st) h := by
  intro p e R s m args below meth c A H0 QQ F H locs cells slots ls sv ws tys hw hl hs hc hsl K
  obtain ⟨w1, s1, e1, r1, w2, s2, e2, r2, hs⟩ := hs
  have r1 : w1 = .int i := r1
  subst e1; subst e2; subst r1
  obtain ⟨q, cA, f, t0, h1, h2, h3, h4⟩ := tint hw.1 ha (by decide) r2
  subst h1
  refine va_iald F.1 F.2.1 hw.2.2.2.1 hw.2.1 a t0 h2 h4 (t_in h0 (t_at hx)) hd ?_
  rw [h3 _ _ hx]
  exact kk p e R s m args below meth c A H0 QQ F H locs cells slots ls _ ws tys hw hl ⟨_, _, rfl, rfl, hs⟩ hc hsl K
theorem tt_zald {a : Nat} {xs : List Int32} {i x : Int32} (hd : decode M.2.1 pc = .ok (.baload, 1)) (ha : h[a]? = some (.inl (1, xs))) (h0 : ¬ i < 0) (hx : xs[i.toNatClampNeg]? = some x) (kk : TT l D M Q kc ks (pc + 1) loc (.inl x :: st) h) : TT l D M Q kc ks pc loc (.inl i :: .inr (some a) :: st) h := by
  intro p e R s m args below meth c A H0 QQ F H locs cells slots ls sv ws tys hw hl hs hc hsl K
  obtain ⟨w1, s1, e1, r1, w2, s2, e2, r2, hs⟩ := hs
  have r1 : w1 = .int i := r1
  subst e1; subst e2; subst r1
  obtain ⟨q, cA, f, t0, h1, h2, h3, h4⟩ := tint hw.1 ha (by decide) r2
  subst h1
  refine va_zald F.1 F.2.1 hw.2.2.2.1 hw.2.1 a t0 h2 h4 (t_in h0 (t_at hx)) hd ?_
  rw [h3 _ _ hx]
  exact kk p e R s m args below meth c A H0 QQ F H locs cells slots ls _ ws tys hw hl ⟨_, _, rfl, rfl, hs⟩ hc hsl K
theorem t_upd {xs : List Int32} {f : Nat → Int32} (h : ∀ (j : Nat) (x : Int32), xs[j]? = some x → f j = x) (i : Nat) (y : Int32) : ∀ (j : Nat) (x : Int32), (xs.set i y)[j]? = some x → upd f i y j = x := by
  intro j x hj
  unfold upd
  by_cases e : j = i
  · subst e
    have hlt : j < xs.length := by have := t_at hj; simpa using this
    rw [List.getElem?_set_self hlt] at hj
    rw [if_pos rfl]
    exact Option.some.inj hj
  · rw [if_neg e]
    rw [List.getElem?_set_ne (fun z => e z.symm)] at hj
    exact h j x hj
theorem tt_iast {a : Nat} {xs : List Int32} {i x : Int32} (hd : decode M.2.1 pc = .ok (.iastore, 1)) (ha : h[a]? = some (.inl (0, xs))) (h0 : ¬ i < 0) (hx : i.toNatClampNeg < xs.length) (kk : TT l D M Q kc ks (pc + 1) loc st (h.set a (.inl (0, xs.set i.toNatClampNeg x)))) : TT l D M Q kc ks pc loc (.inl x :: .inl i :: .inr (some a) :: st) h := by
  intro p e R s m args below meth c A H0 QQ F H locs cells slots ls sv ws tys hw hl hs hc hsl K
  obtain ⟨w0, s0, e0, r0, w1, s1, e1, r1, w2, s2, e2, r2, hs⟩ := hs
  have r0 : w0 = .int x := r0
  have r1 : w1 = .int i := r1
  subst e0; subst e1; subst e2; subst r1; subst r0
  obtain ⟨q, cA, f, t0, h1, h2, h3, h4⟩ := tint hw.1 ha (by decide) r2
  subst h1
  refine va_iast F.1 F.2.1 hw.2.2.2.1 hw.2.1 hw.2.2.1 hw.2.2.2.2 a t0 h2 h4 (t_in h0 hx) hd ?_
  intro H1 locs1 hP hD hS
  have hm := tfst_set (e' := .inl (cA, xs.length, .inl (upd f i.toNatClampNeg x))) h2
  exact kk p e R s m args below meth c A H0 QQ F H1 locs1 cells slots ls _ _ tys (hw.put (x := .inl (0, xs.set i.toNatClampNeg x)) h2 ⟨cA, t0, Or.inl ⟨by decide, _, by rw [List.length_set], t_upd h3 _ _, h4⟩⟩ hP hD hS) (by rw [hm]; exact hl) (by rw [hm]; exact hs) hc hsl (by rw [hm]; exact K)
theorem tt_zast {a : Nat} {xs : List Int32} {i x : Int32} (hd : decode M.2.1 pc = .ok (.bastore, 1)) (ha : h[a]? = some (.inl (1, xs))) (h0 : ¬ i < 0) (hx : i.toNatClampNeg < xs.length) (hz : x = 0 ∨ x = 1) (kk : TT l D M Q kc ks (pc + 1) loc st (h.set a (.inl (1, xs.set i.toNatClampNeg x)))) : TT l D M Q kc ks pc loc (.inl x :: .inl i :: .inr (some a) :: st) h := by
  intro p e R s m args below meth c A H0 QQ F H locs cells slots ls sv ws tys hw hl hs hc hsl K
  obtain ⟨w0, s0, e0, r0, w1, s1, e1, r1, w2, s2, e2, r2, hs⟩ := hs
  have r0 : w0 = .int x := r0
  have r1 : w1 = .int i := r1
  subst e0; subst e1; subst e2; subst r1; subst r0
  obtain ⟨q, cA, f, t0, h1, h2, h3, h4⟩ := tint hw.1 ha (by decide) r2
  subst h1
  refine va_zast F.1 F.2.1 hw.2.2.2.1 hw.2.1 hw.2.2.1 hw.2.2.2.2 a t0 h2 h4 (t_in h0 hx) hd ?_
  intro H1 locs1 hP hD hS
  have hn : vp_nar .boolean x = x := by rcases hz with rfl | rfl <;> rfl
  rw [hn] at hP hD
  have hm := tfst_set (e' := .inl (cA, xs.length, .inl (upd f i.toNatClampNeg x))) h2
  exact kk p e R s m args below meth c A H0 QQ F H1 locs1 cells slots ls _ _ tys (hw.put (x := .inl (1, xs.set i.toNatClampNeg x)) h2 ⟨cA, t0, Or.inl ⟨by decide, _, by rw [List.length_set], t_upd h3 _ _, h4⟩⟩ hP hD hS) (by rw [hm]; exact hl) (by rw [hm]; exact hs) hc hsl (by rw [hm]; exact K)
theorem t_rf {as : List Nat} {r : Option Nat} {w : Value} (h : tvr as (.inr r) w) : tvr as (.inr r) w := h
theorem tt_aald {a t : Nat} {rs : List (Option Nat)} {i : Int32} {r : Option Nat} (hd : decode M.2.1 pc = .ok (.aaload, 1)) (ha : h[a]? = some (.inr (.inl (t, rs)))) (ht : 2 ≤ t) (h0 : ¬ i < 0) (hx : rs[i.toNatClampNeg]? = some r) (kk : TT l D M Q kc ks (pc + 1) loc (.inr r :: st) h) : TT l D M Q kc ks pc loc (.inl i :: .inr (some a) :: st) h := by
  intro p e R s m args below meth c A H0 QQ F H locs cells slots ls sv ws tys hw hl hs hc hsl K
  obtain ⟨w1, s1, e1, r1, w2, s2, e2, r2, hs⟩ := hs
  have r1 : w1 = .int i := r1
  subst e1; subst e2; subst r1
  obtain ⟨q, cA, f, t0, h1, h2, h3, h4⟩ := tarr hw.1 ha r2
  subst h1
  have hr : (tAty t).isReference = true := by
    match t, ht with
    | 2, _ => rfl
    | 3, _ => rfl
    | 4, _ => rfl
    | 5, _ => rfl
    | 6, _ => rfl
    | 7, _ => rfl
    | n + 8, _ => rfl
  have hlt : i.toNatClampNeg < rs.length := t_at hx
  have hin := t_in h0 hlt
  refine W.aald (v := va_rf (f i.toNatClampNeg)) (ty := tAty t) F.1 F.2.1 (hw.2.1 a _ h2) ((hw.2.2.2.1.2 t0 _ h4).1 rs.length (fun j => va_rf (f j))) hr (fun q => by cases q) (by show ¬ (i < 0 ∨ (arrV _ _ _).slots.size ≤ _); rw [arrV_size]; exact hin) (by show (arrV _ _ _).slots[_]? = _; rw [arrV_read _ _ hlt]) rfl rfl hd ?_
  exact kk p e R s m args below meth c A H0 QQ F H locs cells slots ls _ ws tys hw hl ⟨_, _, rfl, h3 _ _ hx, hs⟩ hc hsl K
theorem tt_aast {a t b ci : Nat} {rs : List (Option Nat)} {i : Int32} {fs : List tV} {C : String} {T : u_T} {N : Nat} (hd : decode M.2.1 pc = .ok (.aastore, 1)) (ha : h[a]? = some (.inr (.inl (t, rs)))) (hb : h[b]? = some (.inr (.inr (ci, fs)))) (hC : vwCl[ci]? = some (C, T, N)) (ht : tAty t = .object C) (h0 : ¬ i < 0) (hx : i.toNatClampNeg < rs.length) (kk : TT l D M Q kc ks (pc + 1) loc st (h.set a (.inr (.inl (t, rs.set i.toNatClampNeg (some b)))))) : TT l D M Q kc ks pc loc (.inr (some b) :: .inl i :: .inr (some a) :: st) h := by
  intro p e R s m args below meth c A H0 QQ F H locs cells slots ls sv ws tys hw hl hs hc hsl K
  obtain ⟨w0, s0, e0, r0, w1, s1, e1, r1, w2, s2, e2, r2, hs⟩ := hs
  have r1 : w1 = .int i := r1
  subst e0; subst e1; subst e2; subst r1
  obtain ⟨q, cA, f, t0, h1, h2, h3, h4⟩ := tarr hw.1 ha r2
  subst h1
  have r0' := r0
  obtain ⟨qv, vs, g1, g2, g3⟩ := tobj hw.1 hb r0
  subst g1
  rw [ht] at h4
  refine va_astq (r := (C, T, N)) F.1 F.2.1 hw.2.2.2.1 hw.2.1 hw.2.2.1 hw.2.2.2.2 a t0 b ci h2 h4 g2 hC (t_in h0 hx) hd ?_
  intro H1 locs1 hP hD hS
  have hm := tfst_set (e' := .inl (cA, rs.length, .inr (.inr (.inr (.inr (va_up f i.toNatClampNeg (some qv))))))) h2
  refine kk p e R s m args below meth c A H0 QQ F H1 locs1 cells slots ls _ _ tys (hw.put (x := .inr (.inl (t, rs.set i.toNatClampNeg (some b)))) h2 ⟨cA, _, t0, by rw [List.length_set], ?_, by rw [ht]; exact h4⟩ hP hD hS) (by rw [hm]; exact hl) (by rw [hm]; exact hs) hc hsl (by rw [hm]; exact K)
  intro j r hj
  by_cases e : j = i.toNatClampNeg
  · subst e
    rw [List.getElem?_set_self hx] at hj
    cases hj
    rw [va_up_self]
    exact r0'
  · rw [List.getElem?_set_ne (fun z => e z.symm)] at hj
    rw [va_up_ne _ _ e]
    exact h3 j r hj
theorem tt_alenr {a t : Nat} {rs : List (Option Nat)} (hd : decode M.2.1 pc = .ok (.arraylength, 1)) (ha : h[a]? = some (.inr (.inl (t, rs)))) (kk : TT l D M Q kc ks (pc + 1) loc (.inl (Int32.ofNat rs.length) :: st) h) : TT l D M Q kc ks pc loc (.inr (some a) :: st) h := by
  intro p e R s m args below meth c A H0 QQ F H locs cells slots ls sv ws tys hw hl hs hc hsl K
  obtain ⟨w2, s2, e2, r2, hs⟩ := hs
  subst e2
  obtain ⟨q, cA, f, t0, h1, h2, h3, h4⟩ := tarr hw.1 ha r2
  subst h1
  exact va_alen F.1 F.2.1 hw.2.2.2.1 hw.2.1 a t0 h2 h4 rfl hd (kk p e R s m args below meth c A H0 QQ F H locs cells slots ls _ ws tys hw hl ⟨_, _, rfl, rfl, hs⟩ hc hsl K)
end TTH
