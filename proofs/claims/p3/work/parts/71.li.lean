/-! WHAT THE LAW'S LOOP KEEPS. -/
section TLI
variable {h h' h1 h2 : List tC} {N : Nat} {pk pk' : Int} {τ τ1 : List Nat} {P : Nat → Nat → Bool} {px pm ko : Nat}
/-- the links' places differ -/
def DIS (h : List tC) (px : Nat) : Prop := ∀ i j q : Nat, XQ h px i q → XQ h px j q → i = j
/-- laid, up, attached, counted here as there -/
def SAME (τ : List Nat) (h : List tC) (px : Nat) : Prop := ∀ (i : Nat) (x y : Int32), i < 12 → XL h px i x → ARV τ h 32 i y → (x.toInt ≠ 0 ↔ y.toInt ≠ 0)
def SAMEU (τ : List Nat) (h : List tC) (px : Nat) : Prop := ∀ (i : Nat) (x : Int) (y : Int32), i < 12 → XU h px i x → ARV τ h 33 i y → x = y.toInt
def SAMEA (τ : List Nat) (h : List tC) : Prop := ∀ (i : Nat) (x y : Int32), ARV τ h 10 i x → ARV τ h 37 i y → x.toInt = y.toInt
def SAMEP (pk : Int) (h : List tC) (pm : Nat) : Prop := ∀ n : Int32, PKC h pm n → n.toInt = pk
def LIt (N : Nat) (pk : Int) (τ : List Nat) (h : List tC) (px pm ko : Nat) : Prop := 0 ≤ pk ∧ pk ≤ 64 ∧ WT N pk τ h ∧ τ[px]? = some 6 ∧ τ[pm]? = some 7 ∧ τ[ko]? = some 29 ∧ (∃ y : Int32, h[ko]? = some (.inl (9, [y]))) ∧ I1 τ h ∧ I2 τ h ∧ DIS h px ∧ SAME τ h px
def LIq (N : Nat) (pk : Int) (τ : List Nat) (h : List tC) (px pm ko : Nat) : Prop := LIt N pk τ h px pm ko ∧ SAMEU τ h px ∧ SAMEA τ h ∧ SAMEP pk h pm
theorem xq_role (hw : WT N pk τ h) (tx : τ[px]? = some 6) {i q : Nat} (a : XQ h px i q) : τ[q]? = some 0 := by
  obtain ⟨fs, e, -⟩ := wt_obj hw tx (by decide)
  obtain ⟨kl, gk, tk⟩ := wt_ref (k := 1) hw tx (by decide) e rfl
  obtain ⟨rs, er, -, hr, -⟩ := wt_refs hw tk rfl (by decide)
  obtain ⟨fa, ka, ra, a1, a2, a3, a4⟩ := a
  rw [e] at a1; cases a1
  rw [gk] at a2; cases a2
  rw [er] at a3; cases a3
  exact hr _ (List.mem_of_getElem? a4)
theorem xl_back (hw : WT N pk τ h) (tx : τ[px]? = some 6) (f : Fr P τ h h') (p61 : P 6 1 = true) (p90 : P 9 0 = true) (p00 : P 0 0 = true) {i : Nat} {x : Int32} (a : XL h' px i x) : XL h px i x := by
  obtain ⟨q, fs', a1, a2, a3⟩ := a
  have b1 := xq_back hw tx f p61 p90 a1
  have tq := xq_role hw tx b1
  obtain ⟨fs, e, -⟩ := wt_obj hw tq (by decide)
  obtain ⟨fs2, e2, g2⟩ := (f q 0 tq).1 0 fs e
  rw [e2] at a2; cases a2
  exact ⟨q, fs, b1, e, by rw [← g2 0 p00]; exact a3⟩
theorem xu_back (hw : WT N pk τ h) (tx : τ[px]? = some 6) (f : Fr P τ h h') (p61 : P 6 1 = true) (p90 : P 9 0 = true) (p01 : P 0 1 = true) {i : Nat} {x : Int} (a : XU h' px i x) : XU h px i x := by
  obtain ⟨q, a1, a2⟩ := a
  have b1 := xq_back hw tx f p61 p90 a1
  exact ⟨q, b1, u1_back hw f (xq_role hw tx b1) p01 a2⟩
theorem U1.uq {q : Nat} {x y : Int} (a : U1 h q x) (b : U1 h q y) : x = y := by
  obtain ⟨fs, v, e, g, hv⟩ := a
  obtain ⟨fs', v', e', g', hv'⟩ := b
  rw [e] at e'; cases e'
  rw [g] at g'; cases g'
  rw [← hv, ← hv']
theorem XL.uq {i : Nat} {x y : Int32} (a : XL h px i x) (b : XL h px i y) : x = y := by
  obtain ⟨q, fs, a1, a2, a3⟩ := a
  obtain ⟨q', fs', b1, b2, b3⟩ := b
  have := XQ.uq a1 b1
  subst this
  rw [a2] at b2; cases b2
  rw [a3] at b3; cases b3
  rfl
theorem arv_down (hp : tPre τ τ1) (hu : UQ τ1) {r i : Nat} {x : Int32} (hr : 30 ≤ r ∨ (6 ≤ r ∧ r ≤ 11)) (h0 : ∃ k : Nat, τ[k]? = some r) (a : ARV τ1 h r i x) : ARV τ h r i x := by
  obtain ⟨k, t, xs, a1, a2, a3⟩ := a
  obtain ⟨k0, h0⟩ := h0
  have e := hu k k0 r hr a1 (tup hp h0)
  subst e
  exact ⟨k, t, xs, h0, a2, a3⟩
theorem wt_role (hw : WT N pk τ h) (tm : τ[pm]? = some 7) {k r : Nat} (hk : (fts N pk 7)[k]? = some (.inr (r, false))) : ∃ q : Nat, τ[q]? = some r := by
  obtain ⟨fs, e, -⟩ := wt_obj hw tm (by decide)
  obtain ⟨q, -, tq⟩ := wt_ref (k := k) hw tm (by decide) e hk
  exact ⟨q, tq⟩
theorem wt_role10 (hw : WT N pk τ h) (tx : τ[px]? = some 6) : ∃ q : Nat, τ[q]? = some 10 := by
  obtain ⟨fs, e, -⟩ := wt_obj hw tx (by decide)
  obtain ⟨q, -, tq⟩ := wt_ref (k := 2) hw tx (by decide) e rfl
  exact ⟨q, tq⟩
theorem li_step (L : LIt N pk τ h px pm ko) (hp : tPre τ τ1) (b0 : 0 ≤ pk') (b1 : pk' ≤ 64) (w : WT N pk' τ1 h') (f : Fr P τ h h') (p61 : P 6 1 = true) (p90 : P 9 0 = true) (p00 : P 0 0 = true) (p29 : ∀ j, P 29 j = true) (p32 : P 32 0 = true) (j1 : I1 τ1 h') (j2 : I2 τ1 h') : LIt N pk' τ1 h' px pm ko := by
  obtain ⟨c0, c1, hw, tx, tm, tk, ⟨y0, ek⟩, -, -, dis, same⟩ := L
  refine ⟨b0, b1, w, tup hp tx, tup hp tm, tup hp tk, ⟨y0, ?_⟩, j1, j2, fun i j q a b => dis i j q (xq_back hw tx f p61 p90 a) (xq_back hw tx f p61 p90 b), fun i x y hi a b => ?_⟩
  · rw [fr_k29 f p29 tk (t_at ek)]
    exact ek
  · exact same i x y hi (xl_back hw tx f p61 p90 p00 a) ((arv_down hp w.2.2.2 (by decide) (wt_role (k := 2) hw tm rfl) b).back f p32)
theorem su_step (hw : WT N pk τ h) (tx : τ[px]? = some 6) (tm : τ[pm]? = some 7) (hp : tPre τ τ1) (hu : UQ τ1) (f : Fr P τ h h') (p61 : P 6 1 = true) (p90 : P 9 0 = true) (p01 : P 0 1 = true) (p33 : P 33 0 = true) (S : SAMEU τ h px) : SAMEU τ1 h' px :=
  fun i x y hi a b => S i x y hi (xu_back hw tx f p61 p90 p01 a) ((arv_down hp hu (by decide) (wt_role (k := 3) hw tm rfl) b).back f p33)
theorem sa_step (hw : WT N pk τ h) (tx : τ[px]? = some 6) (tm : τ[pm]? = some 7) (hp : tPre τ τ1) (hu : UQ τ1) (f : Fr P τ h h') (p10 : P 10 0 = true) (p37 : P 37 0 = true) (S : SAMEA τ h) : SAMEA τ1 h' :=
  fun i x y a b => S i x y ((arv_down hp hu (by decide) (wt_role10 hw tx) a).back f p10) ((arv_down hp hu (by decide) (wt_role (k := 7) hw tm rfl) b).back f p37)
theorem pkc_back (hw : WT N pk τ h) (tm : τ[pm]? = some 7) (f : Fr P τ h h') (p24 : P 7 24 = true) {n : Int32} (a : PKC h' pm n) : PKC h pm n := by
  obtain ⟨fs', e', g'⟩ := a
  obtain ⟨fs, e, -⟩ := wt_obj hw tm (by decide)
  obtain ⟨fs2, e2, g2⟩ := (f pm 7 tm).1 7 fs e
  rw [e2] at e'; cases e'
  exact ⟨fs, e, by rw [← g2 24 p24]; exact g'⟩
theorem sp_step (hw : WT N pk τ h) (tm : τ[pm]? = some 7) (f : Fr P τ h h') (p24 : P 7 24 = true) (S : SAMEP pk h pm) : SAMEP pk h' pm := fun n a => S n (pkc_back hw tm f p24 a)
/-- the system's steps -/
theorem li_x (L : LIt N pk τ h px pm ko) (hp : tPre τ τ1) (b0 : 0 ≤ pk') (b1 : pk' ≤ 64) (w : WT N pk' τ1 h') (f : Fr P τ h h') (p61 : P 6 1 = true) (p90 : P 9 0 = true) (p00 : P 0 0 = true) (p29 : ∀ r j, 29 ≤ r → P r j = true) : LIt N pk' τ1 h' px pm ko := by
  obtain ⟨c0, c1, hw, tx, tm, tk, ek, i1, i2, dis, same⟩ := id L
  have dn : ∀ {k r i : Nat} {x : Int32}, (fts N pk 7)[k]? = some (.inr (r, false)) → 30 ≤ r → ARV τ1 h' r i x → ARV τ h r i x := fun hk hr a => (arv_down hp w.2.2.2 (Or.inl hr) (wt_role hw tm hk) a).back f (p29 _ _ (by omega))
  refine li_step L hp b0 b1 w f p61 p90 p00 (fun j => p29 _ _ (by decide)) (p29 _ _ (by decide)) ?_ ?_
  · intro r l li k lo hi u hr hl hli a b c d e
    exact i1 r l li k lo hi u hr hl hli (dn (k := 9) rfl (by decide) a) b (dn (k := 3) rfl (by decide) c) (dn (k := 4) rfl (by decide) d) (dn (k := 5) rfl (by decide) e)
  · intro l u ld a b
    exact i2 l u ld (dn (k := 3) rfl (by decide) a) (dn (k := 2) rfl (by decide) b)
theorem lq_x (L : LIq N pk τ h px pm ko) (hp : tPre τ τ1) (w : WT N pk τ1 h') (f : Fr P τ h h') (p61 : P 6 1 = true) (p90 : P 9 0 = true) (p00 : P 0 0 = true) (p01 : P 0 1 = true) (p10 : P 10 0 = true) (p24 : P 7 24 = true) (p29 : ∀ r j, 29 ≤ r → P r j = true) : LIq N pk τ1 h' px pm ko := by
  obtain ⟨L0, su, sa, sp⟩ := L
  obtain ⟨c0, c1, hw, tx, tm, tk, ek, i1, i2, dis, same⟩ := id L0
  exact ⟨li_x L0 hp c0 c1 w f p61 p90 p00 p29, su_step hw tx tm hp w.2.2.2 f p61 p90 p01 (p29 _ _ (by decide)) su, sa_step hw tx tm hp w.2.2.2 f p10 (p29 _ _ (by decide)) sa, sp_step hw tm f p24 sp⟩
/-- the reference's steps -/
theorem li_m (L : LIt N pk τ h px pm ko) (w : WT N pk τ h') (f : Fr P τ h h') (p61 : P 6 1 = true) (p90 : P 9 0 = true) (p00 : P 0 0 = true) (p29 : ∀ j, P 29 j = true) (p32 : P 32 0 = true) (j1 : I1 τ h') (j2 : I2 τ h') : LIt N pk τ h' px pm ko :=
  li_step L ⟨[], by simp⟩ L.1 L.2.1 w f p61 p90 p00 p29 p32 j1 j2
theorem lq_m (L : LIq N pk τ h px pm ko) (w : WT N pk τ h') (f : Fr P τ h h') (p61 : P 6 1 = true) (p90 : P 9 0 = true) (p00 : P 0 0 = true) (p01 : P 0 1 = true) (p10 : P 10 0 = true) (p24 : P 7 24 = true) (p29 : ∀ j, P 29 j = true) (p32 : P 32 0 = true) (p33 : P 33 0 = true) (p37 : P 37 0 = true) (j1 : I1 τ h') (j2 : I2 τ h') : LIq N pk τ h' px pm ko := by
  obtain ⟨L0, su, sa, sp⟩ := L
  obtain ⟨c0, c1, hw, tx, tm, tk, ek, i1, i2, dis, same⟩ := id L0
  exact ⟨li_m L0 w f p61 p90 p00 p29 p32 j1 j2, su_step hw tx tm ⟨[], by simp⟩ w.2.2.2 f p61 p90 p01 p33 su, sa_step hw tx tm ⟨[], by simp⟩ w.2.2.2 f p10 p37 sa, sp_step hw tm f p24 sp⟩
theorem arv_set {q r i r0 : Nat} {c : tC} {x : Int32} (tq : τ[q]? = some r0) (hr : r ≠ r0) (a : ARV τ (h.set q c) r i x) : ARV τ h r i x := by
  obtain ⟨k, t, xs, a1, a2, a3⟩ := a
  have e : q ≠ k := fun z => by subst z; rw [tq] at a1; exact hr (Option.some.inj a1).symm
  rw [List.getElem?_set_ne e] at a2
  exact ⟨k, t, xs, a1, a2, a3⟩
theorem xq_set (hw : WT N pk τ h) (tx : τ[px]? = some 6) {q i q' r0 : Nat} {c : tC} (tq : τ[q]? = some r0) (h6 : r0 ≠ 6) (h9 : r0 ≠ 9) (a : XQ (h.set q c) px i q') : XQ h px i q' := by
  obtain ⟨fs, e, -⟩ := wt_obj hw tx (by decide)
  obtain ⟨kl, gk, tk⟩ := wt_ref (k := 1) hw tx (by decide) e rfl
  obtain ⟨fa, ka, ra, a1, a2, a3, a4⟩ := a
  have e1 : q ≠ px := fun z => by subst z; rw [tq] at tx; exact h6 (Option.some.inj tx)
  have e2 : q ≠ kl := fun z => by subst z; rw [tq] at tk; exact h9 (Option.some.inj tk)
  rw [List.getElem?_set_ne e1, e] at a1; cases a1
  rw [gk] at a2; cases a2
  rw [List.getElem?_set_ne e2] at a3
  exact ⟨_, _, ra, e, gk, a3, a4⟩
theorem pkc_set (tm : τ[pm]? = some 7) {q r0 : Nat} {c : tC} {n : Int32} (tq : τ[q]? = some r0) (h7 : r0 ≠ 7) (a : PKC (h.set q c) pm n) : PKC h pm n := by
  obtain ⟨fs, e, g⟩ := a
  have e1 : q ≠ pm := fun z => by subst z; rw [tq] at tm; exact h7 (Option.some.inj tm)
  rw [List.getElem?_set_ne e1] at e
  exact ⟨fs, e, g⟩
/-- the row of longs is written -/
theorem lq_ko (L : LIq N pk τ h px pm ko) (y : Int32) : LIq N pk τ (h.set ko (.inl (9, [y]))) px pm ko := by
  obtain ⟨⟨c0, c1, hw, tx, tm, tk, ⟨y0, ek⟩, i1, i2, dis, same⟩, su, sa, sp⟩ := L
  have qb : ∀ {i q : Nat}, XQ (h.set ko (.inl (9, [y]))) px i q → XQ h px i q := fun a => xq_set hw tx tk (by decide) (by decide) a
  have ne : ∀ {i q : Nat}, XQ h px i q → ko ≠ q := fun a z => by subst z; have := xq_role hw tx a; rw [tk] at this; cases this
  refine ⟨⟨c0, c1, wt_set29 hw tk, tx, tm, tk, ⟨y, List.getElem?_set_self (t_at ek)⟩, ?_, ?_, fun i j q a b => dis i j q (qb a) (qb b), ?_⟩, ?_, ?_, fun n a => sp n (pkc_set tm tk (by decide) a)⟩
  · intro r l li k lo hi u hr hl hli a b c d e
    exact i1 r l li k lo hi u hr hl hli (arv_set tk (by decide) a) b (arv_set tk (by decide) c) (arv_set tk (by decide) d) (arv_set tk (by decide) e)
  · intro l u ld a b
    exact i2 l u ld (arv_set tk (by decide) a) (arv_set tk (by decide) b)
  · intro i x z hi a b
    obtain ⟨q, fs, a1, a2, a3⟩ := a
    rw [List.getElem?_set_ne (ne (qb a1))] at a2
    exact same i x z hi ⟨q, fs, qb a1, a2, a3⟩ (arv_set tk (by decide) b)
  · intro i x z hi a b
    obtain ⟨q, a1, fs, v, a2, a3⟩ := a
    rw [List.getElem?_set_ne (ne (qb a1))] at a2
    exact su i x z hi ⟨q, qb a1, fs, v, a2, a3⟩ (arv_set tk (by decide) b)
  · intro i x z a b
    exact sa i x z (arv_set tk (by decide) a) (arv_set tk (by decide) b)
abbrev LRN (N : Nat) (a1 a2 a3 : Int32) : Prop := 0 ≤ a1.toInt ∧ a1.toInt ≤ 11 ∧ 0 ≤ a2.toInt ∧ a2.toInt ≤ (N : Int) - 1 ∧ 0 ≤ a3.toInt ∧ a3.toInt ≤ (N : Int) - 1
theorem ix12 {a1 : Int32} (h0 : 0 ≤ a1.toInt) (h1 : a1.toInt ≤ 11) : a1.toNatClampNeg < 12 := by
  have e : a1.toNatClampNeg = a1.toInt.toNat := rfl
  omega
/-- what the helper says of a lay -/
def LHL (N : Nat) (pk : Int) (τ : List Nat) (h h1 : List tC) (px : Nat) (a1 a2 a3 a4 k : Int32) : Prop :=
  (k.toInt = 0 ∧ WT N pk τ h1 ∧ LAID h h1 px a1.toNatClampNeg ∧ LRN N a1 a2 a3 ∧ a2.toInt ≠ a3.toInt ∧ 1 ≤ a4.toInt ∧ a4.toInt ≤ 60) ∨ (k.toInt = 1 ∧ h1 = h ∧ ¬ LRN N a1 a2 a3) ∨ (k.toInt = 2 ∧ h1 = h ∧ LRN N a1 a2 a3 ∧ (a2.toInt = a3.toInt ∨ a4.toInt < 1 ∨ 60 < a4.toInt ∨ ∃ x : Int32, XL h px a1.toNatClampNeg x ∧ x.toInt ≠ 0))
/-- what the reference says of it -/
def LHM (N : Nat) (τ : List Nat) (h1 h2 : List tC) (a1 a2 a3 a4 t : Int32) : Prop :=
  (¬ LRN N a1 a2 a3 ∧ t.toInt = 1 ∧ Fr PMg τ h1 h2) ∨ (LRN N a1 a2 a3 ∧ t.toInt = 2 ∧ Fr PMg τ h1 h2 ∧ (a2.toInt = a3.toInt ∨ a4.toInt < 1 ∨ 60 < a4.toInt ∨ ∃ (k : Nat) (xs : List Int32) (v : Int32), τ[k]? = some 32 ∧ h1[k]? = some (.inl (1, xs)) ∧ xs[a1.toNatClampNeg]? = some v ∧ v.toInt ≠ 0)) ∨ (LRN N a1 a2 a3 ∧ t.toInt = 0 ∧ a2.toInt ≠ a3.toInt ∧ 1 ≤ a4.toInt ∧ a4.toInt ≤ 60 ∧ ∃ (k : Nat) (xs : List Int32) (v o : Int32), τ[k]? = some 32 ∧ h1[k]? = some (.inl (1, xs)) ∧ xs[a1.toNatClampNeg]? = some v ∧ v.toInt = 0 ∧ h2[k]? = some (.inl (1, xs.set a1.toNatClampNeg o)) ∧ o.toInt = 1)
theorem lay_mid (L : LIt N pk τ h px pm ko) {a1 a2 a3 a4 k : Int32} (hq : LHL N pk τ h h1 px a1 a2 a3 a4 k) : WT N pk τ h1 ∧ I1 τ h1 ∧ I2 τ h1 := by
  obtain ⟨c0, c1, hw, tx, tm, tk, ek, i1, i2, dis, same⟩ := L
  rcases hq with ⟨-, w1, ⟨q, x0, x1, y2, y3, y4, f1, f2, f3, f4, f5, xq, eq, -, -, rfl⟩, -⟩ | ⟨-, rfl, -⟩ | ⟨-, rfl, -⟩
  · have tq := xq_role hw tx xq
    refine ⟨w1, fun r l li k lo hi u hr hl hli a b c d e => ?_, fun l u ld a b => ?_⟩
    · exact i1 r l li k lo hi u hr hl hli (arv_set tq (by decide) a) b (arv_set tq (by decide) c) (arv_set tq (by decide) d) (arv_set tq (by decide) e)
    · exact i2 l u ld (arv_set tq (by decide) a) (arv_set tq (by decide) b)
  · exact ⟨hw, i1, i2⟩
  · exact ⟨hw, i1, i2⟩
theorem lay_end (LQ : LIq N pk τ h px pm ko) {a1 a2 a3 a4 k t : Int32} (hq : LHL N pk τ h h1 px a1 a2 a3 a4 k) (w2 : WT N pk τ h2) (f2 : Fr PMlay τ h1 h2) (j1 : I1 τ h2) (hm : LHM N τ h1 h2 a1 a2 a3 a4 t) : t.toInt = k.toInt ∧ LIq N pk τ h2 px pm ko := by
  obtain ⟨L, su, sa, sp⟩ := id LQ
  obtain ⟨c0, c1, hw, tx, tm, tk, ⟨y0, ek⟩, i1, i2, dis, same⟩ := id L
  rcases hq with ⟨hk, w1, ⟨q, x0, x1, y2, y3, y4, f1, f2', f3, f4, f5, xq, eq, hx0, hx1, e1⟩, hR, hne, hlo, hhi⟩ | ⟨hk, rfl, hR⟩ | ⟨hk, rfl, hR, hc⟩
  · have tq := xq_role hw tx xq
    have hi := ix12 hR.1 hR.2.1
    rcases hm with ⟨hR', -⟩ | ⟨-, -, -, hc⟩ | ⟨-, ht, -, -, -, k0, xs, v, o, t0, eh1, gv, hv, eh2, ho⟩
    · exact absurd hR hR'
    · exfalso
      rcases hc with z | z | z | ⟨k0, xs, v, t0, eh1, gv, hv⟩
      · exact hne z
      · omega
      · omega
      · have a : ARV τ h 32 a1.toNatClampNeg v := arv_set (q := q) tq (by decide) (by rw [← e1]; exact ⟨k0, 1, xs, t0, eh1, gv⟩)
        exact absurd hx0 ((same _ x0 v hi ⟨q, _, xq, eq, rfl⟩ a).mpr hv)
    · have xqb : ∀ {i q' : Nat}, XQ h2 px i q' → XQ h px i q' := fun z => xq_set (q := q) hw tx tq (by decide) (by decide) (by rw [← e1]; exact xq_back w1 tx f2 rfl rfl z)
      refine ⟨by omega, ⟨c0, c1, w2, tx, tm, tk, ⟨y0, ?_⟩, j1, ?_, ?_, ?_⟩, ?_, ?_, ?_⟩
      · have hne' : q ≠ ko := fun z => by subst z; rw [tq] at tk; cases tk
        have ek1 : h1[ko]? = some (.inl (9, [y0])) := by rw [e1, List.getElem?_set_ne hne']; exact ek
        rw [fr_k29 f2 (fun j => rfl) tk (t_at ek1)]
        exact ek1
      · intro l u ld a b hu
        have a' : ARV τ h 33 l u := arv_set (q := q) tq (by decide) (by rw [← e1]; exact a.back f2 rfl)
        obtain ⟨k1, t1, ys, z1, z2, z3⟩ := b
        have e := w2.2.2.2 k1 k0 32 (by decide) z1 t0
        subst e
        rw [eh2] at z2; cases z2
        by_cases el : a1.toNatClampNeg = l
        · subst el
          rw [List.getElem?_set_self (t_at gv)] at z3
          cases z3
          omega
        · rw [List.getElem?_set_ne el] at z3
          exact i2 l u ld a' (arv_set (q := q) tq (by decide) (by rw [← e1]; exact ⟨k1, 1, xs, t0, eh1, z3⟩)) hu
      · intro i j q' a b
        exact dis i j q' (xqb a) (xqb b)
      · intro j x y hj a b
        have a' := xl_back w1 tx f2 rfl rfl rfl a
        obtain ⟨k1, t1, ys, z1, z2, z3⟩ := b
        have e := w2.2.2.2 k1 k0 32 (by decide) z1 t0
        subst e
        rw [eh2] at z2; cases z2
        obtain ⟨q', fs', b1, b2, b3⟩ := a'
        have b1' : XQ h px j q' := xq_set (q := q) hw tx tq (by decide) (by decide) (by rw [← e1]; exact b1)
        by_cases el : a1.toNatClampNeg = j
        · subst el
          rw [List.getElem?_set_self (t_at gv)] at z3
          cases z3
          have := XQ.uq b1' xq
          subst this
          rw [e1, List.getElem?_set_self (t_at eq)] at b2
          cases b2
          cases b3
          constructor <;> intro _ <;> omega
        · rw [List.getElem?_set_ne el] at z3
          have hqq : q ≠ q' := fun z => by subst z; exact el (dis _ _ _ xq b1')
          rw [e1, List.getElem?_set_ne hqq] at b2
          exact same j x y hj ⟨q', fs', b1', b2, b3⟩ (arv_set (q := q) tq (by decide) (by rw [← e1]; exact ⟨k1, 1, xs, t0, eh1, z3⟩))
      · intro j x y hj a b
        have a' := xu_back w1 tx f2 rfl rfl rfl a
        have b' : ARV τ h 33 j y := arv_set (q := q) tq (by decide) (by rw [← e1]; exact b.back f2 rfl)
        obtain ⟨q', b1, fs, v', b2, b3, b4⟩ := a'
        have b1' : XQ h px j q' := xq_set (q := q) hw tx tq (by decide) (by decide) (by rw [← e1]; exact b1)
        refine su j x y hj ⟨q', b1', ?_⟩ b'
        by_cases hqq : q = q'
        · subst hqq
          rw [e1, List.getElem?_set_self (t_at eq)] at b2
          cases b2
          exact ⟨_, v', eq, b3, b4⟩
        · rw [e1, List.getElem?_set_ne hqq] at b2
          exact ⟨fs, v', b2, b3, b4⟩
      · intro j x y a b
        exact sa j x y (arv_set (q := q) tq (by decide) (by rw [← e1]; exact a.back f2 rfl)) (arv_set (q := q) tq (by decide) (by rw [← e1]; exact b.back f2 rfl))
      · intro n a
        exact sp n (pkc_set (q := q) tm tq (by decide) (by rw [← e1]; exact pkc_back w1 tm f2 rfl a))
  · rcases hm with ⟨-, ht, fg⟩ | ⟨hR', -⟩ | ⟨hR', -⟩
    · exact ⟨by omega, lq_m LQ w2 fg rfl rfl rfl rfl rfl rfl (fun j => rfl) rfl rfl rfl j1 (i2_fr fg rfl rfl i2)⟩
    · exact absurd hR' hR
    · exact absurd hR' hR
  · rcases hm with ⟨hR', -⟩ | ⟨-, ht, fg, -⟩ | ⟨-, ht, hne, hlo, hhi, k0, xs, v, o, t0, eh1, gv, hv, -, -⟩
    · exact absurd hR hR'
    · exact ⟨by omega, lq_m LQ w2 fg rfl rfl rfl rfl rfl rfl (fun j => rfl) rfl rfl rfl j1 (i2_fr fg rfl rfl i2)⟩
    · exfalso
      rcases hc with z | z | z | ⟨x, xl, hx⟩
      · exact hne z
      · omega
      · omega
      · exact (same _ x v (ix12 hR.1 hR.2.1) xl ⟨k0, 1, xs, t0, eh1, gv⟩).mp hx hv
/-- turn -/
abbrev LRT (a1 : Int32) : Prop := 0 ≤ a1.toInt ∧ a1.toInt ≤ 11
def THL (N : Nat) (pk : Int) (τ τ1 : List Nat) (h h1 : List tC) (px : Nat) (a1 a2 k : Int32) : Prop :=
  (k.toInt = 0 ∧ tPre τ τ1 ∧ WT N pk τ1 h1 ∧ Fr PXt τ h h1 ∧ LRT a1 ∧ (∃ x : Int32, XL h px a1.toNatClampNeg x ∧ x.toInt ≠ 0) ∧ (∃ x : Int, XU h px a1.toNatClampNeg x ∧ x ≠ a2.toInt) ∧ UPS τ h h1 px a1.toNatClampNeg a2.toInt) ∨ (k.toInt = 1 ∧ τ1 = τ ∧ h1 = h ∧ ¬ LRT a1) ∨ (k.toInt = 2 ∧ τ1 = τ ∧ h1 = h ∧ LRT a1 ∧ (XL h px a1.toNatClampNeg 0 ∨ XU h px a1.toNatClampNeg a2.toInt))
def THM (τ : List Nat) (h1 h2 : List tC) (a1 a2 t : Int32) : Prop :=
  (¬ LRT a1 ∧ t.toInt = 1 ∧ Fr PMg τ h1 h2) ∨ (LRT a1 ∧ t.toInt = 2 ∧ Fr PMg τ h1 h2 ∧ ((∃ v : Int32, ARV τ h1 32 a1.toNatClampNeg v ∧ v.toInt = 0) ∨ ∃ v : Int32, ARV τ h1 33 a1.toNatClampNeg v ∧ v.toInt = a2.toInt)) ∨ (LRT a1 ∧ t.toInt = 0 ∧ (∃ v : Int32, ARV τ h1 32 a1.toNatClampNeg v ∧ v.toInt ≠ 0) ∧ ∃ (k : Nat) (xs : List Int32) (v : Int32), τ[k]? = some 33 ∧ h1[k]? = some (.inl (1, xs)) ∧ xs[a1.toNatClampNeg]? = some v ∧ v.toInt ≠ a2.toInt ∧ h2[k]? = some (.inl (1, xs.set a1.toNatClampNeg a2)))
theorem p29t : ∀ r j, 29 ≤ r → PXt r j = true := fun r j h => by
  have e : (r == 0) = false := by simp; omega
  simp [PXt, PX, h, e]
theorem p29a : ∀ r j, 29 ≤ r → PXa r j = true := fun r j h => by
  have e : (r == 10) = false := by simp; omega
  simp [PXa, PX, h, e]
theorem p29i : ∀ r j, 29 ≤ r → PXi r j = true := fun r j h => by
  have e : (r == 6) = false := by simp; omega
  simp [PXi, PX, h, e]
theorem turn_mid (L : LIt N pk τ h px pm ko) {a1 a2 k : Int32} (hq : THL N pk τ τ1 h h1 px a1 a2 k) : LIt N pk τ1 h1 px pm ko := by
  rcases hq with ⟨-, hp, w1, f1, -⟩ | ⟨-, rfl, rfl, -⟩ | ⟨-, rfl, rfl, -⟩
  · exact li_x L hp L.1 L.2.1 w1 f1 rfl rfl rfl p29t
  · exact L
  · exact L
theorem turn_end (LQ : LIq N pk τ h px pm ko) {a1 a2 k t : Int32} (hq : THL N pk τ τ1 h h1 px a1 a2 k) (w2 : WT N pk τ1 h2) (f2 : Fr PMt τ1 h1 h2) (j1 : I1 τ1 h2) (j2 : I2 τ1 h2) (hm : THM τ1 h1 h2 a1 a2 t) : t.toInt = k.toInt ∧ LIq N pk τ1 h2 px pm ko := by
  obtain ⟨L, su, sa, sp⟩ := id LQ
  have L1 := turn_mid L hq
  obtain ⟨c0, c1, hw, tx, tm, tk, ek, i1, i2, dis, same⟩ := id L
  obtain ⟨-, -, hw1, tx1, tm1, -, -, -, i21, -, -⟩ := id L1
  rcases hq with ⟨hk, hp, -, f1, hR, ⟨x0, xl, hx0⟩, ⟨xv, xu, hxv⟩, q, xq, uq, uo⟩ | ⟨hk, rfl, rfl, hR⟩ | ⟨hk, rfl, rfl, hR, hc⟩
  · have hi := ix12 hR.1 hR.2
    have d32 : ∀ {i : Nat} {v : Int32}, ARV τ1 h1 32 i v → ARV τ h 32 i v := fun a => (arv_down hp hw1.2.2.2 (by decide) (wt_role (k := 2) hw tm rfl) a).back f1 rfl
    have d33 : ∀ {i : Nat} {v : Int32}, ARV τ1 h1 33 i v → ARV τ h 33 i v := fun a => (arv_down hp hw1.2.2.2 (by decide) (wt_role (k := 3) hw tm rfl) a).back f1 rfl
    rcases hm with ⟨hR', -⟩ | ⟨-, -, -, hc⟩ | ⟨-, ht, -, k0, xs, v, t0, eh1, gv, hv, eh2⟩
    · exact absurd hR hR'
    · exfalso
      rcases hc with ⟨v, a, z⟩ | ⟨v, a, z⟩
      · exact (same _ x0 v hi xl (d32 a)).mp hx0 z
      · exact hxv ((su _ xv v hi xu (d33 a)).trans z)
    · refine ⟨by omega, li_step L1 ⟨[], by simp⟩ c0 c1 w2 f2 rfl rfl rfl (fun j => rfl) rfl j1 j2, ?_, sa_step hw1 tx1 tm1 ⟨[], by simp⟩ w2.2.2.2 f2 rfl rfl (sa_step hw tx tm hp hw1.2.2.2 f1 rfl rfl sa), sp_step hw1 tm1 f2 rfl (sp_step hw tm f1 rfl sp)⟩
      intro j x y hj a b
      obtain ⟨q', b1, b2⟩ := xu_back hw1 tx1 f2 rfl rfl rfl a
      have b1' := xq_back hw tx f1 rfl rfl b1
      obtain ⟨k1, t1, ys, z1, z2, z3⟩ := b
      have e := w2.2.2.2 k1 k0 33 (by decide) z1 t0
      subst e
      rw [eh2] at z2; cases z2
      by_cases el : a1.toNatClampNeg = j
      · subst el
        rw [List.getElem?_set_self (t_at gv)] at z3
        cases z3
        have := XQ.uq b1' xq
        subst this
        exact U1.uq b2 uq
      · rw [List.getElem?_set_ne el] at z3
        have hqq : q' ≠ q := fun z => by subst z; exact el (dis _ _ _ xq b1')
        exact su j x y hj ⟨q', b1', uo q' x hqq (xq_role hw tx b1') b2⟩ (d33 ⟨k1, 1, xs, t0, eh1, z3⟩)
  · rcases hm with ⟨-, ht, fg⟩ | ⟨hR', -⟩ | ⟨hR', -⟩
    · exact ⟨by omega, lq_m LQ w2 fg rfl rfl rfl rfl rfl rfl (fun j => rfl) rfl rfl rfl j1 j2⟩
    · exact absurd hR' hR
    · exact absurd hR' hR
  · have hi := ix12 hR.1 hR.2
    rcases hm with ⟨hR', -⟩ | ⟨-, ht, fg, -⟩ | ⟨-, ht, ⟨v1, a1', hv1⟩, k0, xs, v, t0, eh1, gv, hv, -⟩
    · exact absurd hR hR'
    · exact ⟨by omega, lq_m LQ w2 fg rfl rfl rfl rfl rfl rfl (fun j => rfl) rfl rfl rfl j1 j2⟩
    · exfalso
      rcases hc with xl | xu
      · exact absurd (by decide) ((same _ 0 v1 hi xl a1').mpr hv1)
      · exact hv (su _ _ v hi xu ⟨k0, 1, xs, t0, eh1, gv⟩).symm
/-- attach -/
abbrev LRA (N : Nat) (a1 a2 : Int32) : Prop := 0 ≤ a1.toInt ∧ a1.toInt ≤ 7 ∧ -1 ≤ a2.toInt ∧ a2.toInt ≤ (N : Int) - 1
def AHL (N : Nat) (pk : Int) (τ τ1 : List Nat) (h h1 : List tC) (a1 a2 k : Int32) : Prop :=
  (k.toInt = 0 ∧ tPre τ τ1 ∧ WT N pk τ1 h1 ∧ Fr PXa τ h h1 ∧ LRA N a1 a2 ∧ ∃ (k0 : Nat) (xs : List Int32) (v : Int32), τ[k0]? = some 10 ∧ h[k0]? = some (.inl (0, xs)) ∧ xs[a1.toNatClampNeg]? = some v ∧ v.toInt ≠ a2.toInt ∧ h1[k0]? = some (.inl (0, xs.set a1.toNatClampNeg a2))) ∨ (k.toInt = 1 ∧ τ1 = τ ∧ h1 = h ∧ ¬ LRA N a1 a2) ∨ (k.toInt = 2 ∧ τ1 = τ ∧ h1 = h ∧ LRA N a1 a2 ∧ ∃ v : Int32, ARV τ h 10 a1.toNatClampNeg v ∧ v.toInt = a2.toInt)
def AHM (N : Nat) (τ : List Nat) (h1 h2 : List tC) (a1 a2 t : Int32) : Prop :=
  (¬ LRA N a1 a2 ∧ t.toInt = 1 ∧ Fr PMg τ h1 h2) ∨ (LRA N a1 a2 ∧ t.toInt = 2 ∧ Fr PMg τ h1 h2 ∧ ∃ v : Int32, ARV τ h1 37 a1.toNatClampNeg v ∧ v.toInt = a2.toInt) ∨ (LRA N a1 a2 ∧ t.toInt = 0 ∧ ∃ (k : Nat) (xs : List Int32) (v : Int32), τ[k]? = some 37 ∧ h1[k]? = some (.inl (0, xs)) ∧ xs[a1.toNatClampNeg]? = some v ∧ v.toInt ≠ a2.toInt ∧ h2[k]? = some (.inl (0, xs.set a1.toNatClampNeg a2)))
theorem attach_mid (L : LIt N pk τ h px pm ko) {a1 a2 k : Int32} (hq : AHL N pk τ τ1 h h1 a1 a2 k) : LIt N pk τ1 h1 px pm ko := by
  rcases hq with ⟨-, hp, w1, f1, -⟩ | ⟨-, rfl, rfl, -⟩ | ⟨-, rfl, rfl, -⟩
  · exact li_x L hp L.1 L.2.1 w1 f1 rfl rfl rfl p29a
  · exact L
  · exact L
/-- each place of the system's row is one of the reference's -/
theorem arv_ex37 (hw : WT N pk τ h) (tm : τ[pm]? = some 7) {i : Nat} (hi : i < 8) : ∃ v : Int32, ARV τ h 37 i v := by
  obtain ⟨q, tq⟩ := wt_role (k := 7) hw tm rfl
  obtain ⟨xs, e, l, -⟩ := wt_ints hw tq rfl (by decide)
  exact ⟨_, q, _, xs, tq, e, List.getElem?_eq_getElem (by omega)⟩
theorem arv_ex10 (hw : WT N pk τ h) (tx : τ[px]? = some 6) {i : Nat} (hi : i < 8) : ∃ v : Int32, ARV τ h 10 i v := by
  obtain ⟨q, tq⟩ := wt_role10 hw tx
  obtain ⟨xs, e, l, -⟩ := wt_ints hw tq rfl (by decide)
  exact ⟨_, q, _, xs, tq, e, List.getElem?_eq_getElem (by omega)⟩
theorem attach_end (LQ : LIq N pk τ h px pm ko) {a1 a2 k t : Int32} (hq : AHL N pk τ τ1 h h1 a1 a2 k) (w2 : WT N pk τ1 h2) (f2 : Fr PMa τ1 h1 h2) (j1 : I1 τ1 h2) (j2 : I2 τ1 h2) (hm : AHM N τ1 h1 h2 a1 a2 t) : t.toInt = k.toInt ∧ LIq N pk τ1 h2 px pm ko := by
  obtain ⟨L, su, sa, sp⟩ := id LQ
  have L1 := attach_mid L hq
  obtain ⟨c0, c1, hw, tx, tm, tk, ek, i1, i2, dis, same⟩ := id L
  obtain ⟨-, -, hw1, tx1, tm1, -, -, -, i21, -, -⟩ := id L1
  rcases hq with ⟨hk, hp, -, f1, hR, k9, xs9, v9, t9, e9, g9, hv9, s9⟩ | ⟨hk, rfl, rfl, hR⟩ | ⟨hk, rfl, rfl, hR, v9, a9, hv9⟩
  · have d37 : ∀ {i : Nat} {v : Int32}, ARV τ1 h1 37 i v → ARV τ h 37 i v := fun a => (arv_down hp hw1.2.2.2 (by decide) (wt_role (k := 7) hw tm rfl) a).back f1 rfl
    rcases hm with ⟨hR', -⟩ | ⟨-, -, -, v, a, z⟩ | ⟨-, ht, k0, xs, v, t0, eh1, gv, hv, eh2⟩
    · exact absurd hR hR'
    · exact absurd ((sa _ v9 v ⟨k9, 0, xs9, t9, e9, g9⟩ (d37 a)).trans z) hv9
    · refine ⟨by omega, li_step L1 ⟨[], by simp⟩ c0 c1 w2 f2 rfl rfl rfl (fun j => rfl) rfl j1 j2, su_step hw1 tx1 tm1 ⟨[], by simp⟩ w2.2.2.2 f2 rfl rfl rfl rfl (su_step hw tx tm hp hw1.2.2.2 f1 rfl rfl rfl rfl su), ?_, sp_step hw1 tm1 f2 rfl (sp_step hw tm f1 rfl sp)⟩
      intro j x y a b
      obtain ⟨k1, t1, ys, z1, z2, z3⟩ := b
      have e := w2.2.2.2 k1 k0 37 (by decide) z1 t0
      subst e
      rw [eh2] at z2; cases z2
      obtain ⟨k2, t2, ws, y1, y2, y3⟩ := a.back f2 rfl
      have e' := w2.2.2.2 k2 k9 10 (by decide) y1 (tup hp t9)
      subst e'
      rw [s9] at y2; cases y2
      by_cases el : a1.toNatClampNeg = j
      · subst el
        rw [List.getElem?_set_self (t_at gv)] at z3
        rw [List.getElem?_set_self (t_at g9)] at y3
        cases z3; cases y3
        rfl
      · rw [List.getElem?_set_ne el] at z3 y3
        exact sa j x y ⟨k2, 0, xs9, t9, e9, y3⟩ (d37 ⟨k1, 0, xs, t0, eh1, z3⟩)
  · rcases hm with ⟨-, ht, fg⟩ | ⟨hR', -⟩ | ⟨hR', -⟩
    · exact ⟨by omega, lq_m LQ w2 fg rfl rfl rfl rfl rfl rfl (fun j => rfl) rfl rfl rfl j1 j2⟩
    · exact absurd hR' hR
    · exact absurd hR' hR
  · rcases hm with ⟨hR', -⟩ | ⟨-, ht, fg, -⟩ | ⟨-, ht, k0, xs, v, t0, eh1, gv, hv, -⟩
    · exact absurd hR hR'
    · exact ⟨by omega, lq_m LQ w2 fg rfl rfl rfl rfl rfl rfl (fun j => rfl) rfl rfl rfl j1 j2⟩
    · exact absurd ((sa _ v9 v a9 ⟨k0, 0, xs, t0, eh1, gv⟩).symm.trans hv9) hv
/-- inject -/
abbrev LRI (N : Nat) (a1 a2 : Int32) : Prop := 0 ≤ a1.toInt ∧ a1.toInt ≤ (N : Int) - 1 ∧ 0 ≤ a2.toInt ∧ a2.toInt ≤ 7
def IHL (N : Nat) (pk pk1 : Int) (τ τ1 : List Nat) (h h1 : List tC) (ko : Nat) (a1 a2 a3 k : Int32) : Prop :=
  (k.toInt = 0 ∧ pk1 = pk + 1 ∧ tPre τ τ1 ∧ (∃ (h0 : List tC) (y : Int32), WT N (pk + 1) τ1 h0 ∧ Fr PXi τ h h0 ∧ y.toInt = pk ∧ h1 = h0.set ko (.inl (9, [y]))) ∧ LRI N a1 a2 ∧ 0 ≤ a3.toInt ∧ a3.toInt ≤ 60 ∧ pk < 64) ∨ (k.toInt = 1 ∧ pk1 = pk ∧ τ1 = τ ∧ h1 = h ∧ ¬ LRI N a1 a2) ∨ (k.toInt = 2 ∧ pk1 = pk ∧ τ1 = τ ∧ h1 = h ∧ LRI N a1 a2 ∧ (a3.toInt < 0 ∨ 60 < a3.toInt ∨ 64 ≤ pk))
def IHM (N : Nat) (τ : List Nat) (h1 h2 : List tC) (pm : Nat) (a1 a2 a3 t x : Int32) : Prop :=
  (¬ LRI N a1 a2 ∧ t.toInt = 1 ∧ Fr PMg τ h1 h2) ∨ (LRI N a1 a2 ∧ t.toInt = 2 ∧ Fr PMg τ h1 h2 ∧ (a3.toInt < 0 ∨ 60 < a3.toInt ∨ ∃ n : Int32, PKC h1 pm n ∧ 64 ≤ n.toInt)) ∨ (LRI N a1 a2 ∧ t.toInt = 0 ∧ 0 ≤ a3.toInt ∧ a3.toInt ≤ 60 ∧ ∃ n n' : Int32, PKC h1 pm n ∧ n.toInt < 64 ∧ PKC h2 pm n' ∧ n'.toInt = n.toInt + 1 ∧ x.toInt = n.toInt)
/-- all but the count, behind the system's inject -/
theorem inj_mid (LQ : LIq N pk τ h px pm ko) {pk1 : Int} {a1 a2 a3 k : Int32} (hq : IHL N pk pk1 τ τ1 h h1 ko a1 a2 a3 k) : LIt N pk1 τ1 h1 px pm ko ∧ SAMEU τ1 h1 px ∧ SAMEA τ1 h1 ∧ SAMEP pk h1 pm := by
  obtain ⟨L, su, sa, sp⟩ := id LQ
  obtain ⟨c0, c1, hw, tx, tm, tk, ek, i1, i2, dis, same⟩ := id L
  rcases hq with ⟨hk, rfl, hp, ⟨h0, y, w1, f1, hy, rfl⟩, hR, h3, h4, h5⟩ | ⟨hk, rfl, rfl, rfl, -⟩ | ⟨hk, rfl, rfl, rfl, -⟩
  · have L1 := li_x L hp (by omega) (by omega) w1 f1 rfl rfl rfl p29i
    have s1 := su_step hw tx tm hp w1.2.2.2 f1 rfl rfl rfl rfl su
    have s2 := sa_step hw tx tm hp w1.2.2.2 f1 rfl rfl sa
    have s3 := sp_step hw tm f1 rfl sp
    obtain ⟨d0, d1, hw1, tx1, tm1, tk1, ⟨y1, ek1⟩, j1, j2, dis1, same1⟩ := id L1
    have qb : ∀ {i q : Nat}, XQ (h0.set ko (.inl (9, [y]))) px i q → XQ h0 px i q := fun a => xq_set hw1 tx1 tk1 (by decide) (by decide) a
    have ne : ∀ {i q : Nat}, XQ h0 px i q → ko ≠ q := fun a z => by subst z; have := xq_role hw1 tx1 a; rw [tk1] at this; cases this
    refine ⟨⟨d0, d1, wt_set29 hw1 tk1, tx1, tm1, tk1, ⟨y, List.getElem?_set_self (t_at ek1)⟩, ?_, ?_, fun i j q a b => dis1 i j q (qb a) (qb b), ?_⟩, ?_, ?_, fun n a => s3 n (pkc_set tm1 tk1 (by decide) a)⟩
    · intro r l li k lo hi u hr hl hli a b c d e
      exact j1 r l li k lo hi u hr hl hli (arv_set tk1 (by decide) a) b (arv_set tk1 (by decide) c) (arv_set tk1 (by decide) d) (arv_set tk1 (by decide) e)
    · intro l u ld a b
      exact j2 l u ld (arv_set tk1 (by decide) a) (arv_set tk1 (by decide) b)
    · intro i x z hi a b
      obtain ⟨q, fs, a1, a2, a3⟩ := a
      rw [List.getElem?_set_ne (ne (qb a1))] at a2
      exact same1 i x z hi ⟨q, fs, qb a1, a2, a3⟩ (arv_set tk1 (by decide) b)
    · intro i x z hi a b
      obtain ⟨q, a1, fs, v, a2, a3⟩ := a
      rw [List.getElem?_set_ne (ne (qb a1))] at a2
      exact s1 i x z hi ⟨q, qb a1, fs, v, a2, a3⟩ (arv_set tk1 (by decide) b)
    · intro i x z a b
      exact s2 i x z (arv_set tk1 (by decide) a) (arv_set tk1 (by decide) b)
  · exact ⟨L, su, sa, sp⟩
  · exact ⟨L, su, sa, sp⟩
theorem inj_end (LQ : LIq N pk τ h px pm ko) {pk1 : Int} {a1 a2 a3 k t x : Int32} (hq : IHL N pk pk1 τ τ1 h h1 ko a1 a2 a3 k) (w2 : WT N pk1 τ1 h2) (f2 : Fr PMj τ1 h1 h2) (j1 : I1 τ1 h2) (j2 : I2 τ1 h2) (hm : IHM N τ1 h1 h2 pm a1 a2 a3 t x) : t.toInt = k.toInt ∧ LIq N pk1 τ1 h2 px pm ko ∧ (k.toInt = 0 → h2[ko]? = some (.inl (9, [x]))) := by
  obtain ⟨L1, su, sa, sp⟩ := inj_mid LQ hq
  obtain ⟨c0, c1, hw1, tx1, tm1, tk1, ⟨y1, ek1⟩, i1, i2, dis, same⟩ := id L1
  have L2 := li_step L1 ⟨[], by simp⟩ c0 c1 w2 f2 rfl rfl rfl (fun j => rfl) rfl j1 j2
  have s1 := su_step hw1 tx1 tm1 ⟨[], by simp⟩ w2.2.2.2 f2 rfl rfl rfl rfl su
  have s2 := sa_step hw1 tx1 tm1 ⟨[], by simp⟩ w2.2.2.2 f2 rfl rfl sa
  rcases hq with ⟨hk, rfl, hp, ⟨h0, y, w0, f0, hy, e1⟩, hR, h3, h4, h5⟩ | ⟨hk, rfl, rfl, rfl, hR⟩ | ⟨hk, rfl, rfl, rfl, hR, hc⟩
  · rcases hm with ⟨hR', -⟩ | ⟨-, -, -, hc⟩ | ⟨-, ht, -, -, n, n', hn, hn64, hn', en, ex⟩
    · exact absurd hR hR'
    · exfalso
      rcases hc with z | z | ⟨n, hn, z⟩
      · omega
      · omega
      · have := sp n hn
        omega
    · have hpn := sp n hn
      refine ⟨by omega, ⟨L2, s1, s2, fun m hm => ?_⟩, fun _ => ?_⟩
      · have := PKC.uq hm hn'
        subst this
        omega
      · have tko : τ1[ko]? = some 29 := tk1
        have ey : y = x := Int32.toInt.inj (by omega)
        have ek2 : h1[ko]? = some (.inl (9, [y])) := by
          rw [e1]
          apply List.getElem?_set_self
          have := t_at ek1
          rw [e1, List.length_set] at this
          exact this
        rw [fr_k29 f2 (fun j => rfl) tko (t_at ek2), ek2, ey]
  · rcases hm with ⟨-, ht, fg⟩ | ⟨hR', -⟩ | ⟨hR', -⟩
    · exact ⟨by omega, ⟨L2, s1, s2, sp_step hw1 tm1 fg rfl sp⟩, fun z => by omega⟩
    · exact absurd hR' hR
    · exact absurd hR' hR
  · rcases hm with ⟨hR', -⟩ | ⟨-, ht, fg, -⟩ | ⟨-, ht, h3, h4, n, n', hn, hn64, -⟩
    · exact absurd hR hR'
    · exact ⟨by omega, ⟨L2, s1, s2, sp_step hw1 tm1 fg rfl sp⟩, fun z => by omega⟩
    · exfalso
      have := sp n hn
      omega
end TLI
set_option maxHeartbeats 4000000 in
theorem g_X7_thrownE {l : Launch} {D : va_G} {h : List tC} (a0 : Nat) {t : Int32} (hT : THR h a0 t) : TMc l D yX7_thrown cX7_thrown 1 (some .int) 0 0 0 0 [.inr (some a0)] h (fun rv h' => h = h' ∧ rv = some (.inl t)) := by
  refine tmc_of false rfl (by decide) (Nat.le_of_ble_eq_true rfl) ?_
  obtain ⟨fs, e0, g0⟩ := hT
  suffices HQ : ∀ Q0, Q0 = tRt cX7_thrown (some .int) (fun rv h' => h = h' ∧ rv = some (.inl t)) → TT l D mX7_thrown Q0 0 0 0 [(0, .inr (some a0))] [] h from HQ _ rfl
  intro Q0 hQ
  refine tt_aload_n (pc := 0) dX7_thrown_0 (.head _) ?_
  refine tt_get (pc := 1) dX7_thrown_1 flX7_96 e0 g0 ?_
  refine tt_stop ?_
  rw [hQ]
  exact Or.inr (Or.inl ⟨t, dX7_thrown_4, rfl, Or.inl rfl, rfl, rfl⟩)
