/-! WHAT THE LAW'S LOOP KEEPS. -/
section TLI
variable {h h' h1 h2 : List tC} {N : Nat} {pk pk' : Int} {τ τ1 : List Nat} {P : Nat → Nat → Bool} {px pm ko : Nat}
/-- the links' places differ -/
def DIS (h : List tC) (px : Nat) : Prop := ∀ i j q : Nat, XQ h px i q → XQ h px j q → i = j
/-- laid here as there -/
def SAME (τ : List Nat) (h : List tC) (px : Nat) : Prop := ∀ (i : Nat) (x y : Int32), i < 12 → XL h px i x → ARV τ h 32 i y → (x.toInt ≠ 0 ↔ y.toInt ≠ 0)
def LIt (N : Nat) (pk : Int) (τ : List Nat) (h : List tC) (px pm ko : Nat) : Prop := 0 ≤ pk ∧ pk ≤ 64 ∧ WT N pk τ h ∧ τ[px]? = some 6 ∧ τ[pm]? = some 7 ∧ τ[ko]? = some 29 ∧ h[ko]? = some (.inl (9, [0])) ∧ I1 τ h ∧ I2 τ h ∧ DIS h px ∧ SAME τ h px
theorem xq_role (hw : WT N pk τ h) (tx : τ[px]? = some 6) {i q : Nat} (a : XQ h px i q) : τ[q]? = some 0 := by
  obtain ⟨fs, e, -⟩ := wt_obj hw tx (by decide)
  obtain ⟨kl, gk, tk⟩ := wt_ref (k := 1) hw tx (by decide) e rfl
  obtain ⟨rs, er, -, hr, -⟩ := wt_refs hw tk rfl (by decide)
  obtain ⟨fa, ka, ra, a1, a2, a3, a4⟩ := a
  rw [e] at a1; cases a1
  rw [gk] at a2; cases a2
  rw [er] at a3; cases a3
  exact hr _ (List.mem_of_getElem? a4)
theorem xl_back (hw : WT N pk τ h) (tx : τ[px]? = some 6) (f : Fr P τ h h') (p61 : P 6 1 = true) (p90 : P 9 0 = true) (p00 : P 0 0 = true) {i : Nat} {x : Int32} (a : XL h' px i x) : XL h px i x := by
  obtain ⟨q, fs', a1, a2, a3⟩ := a
  have b1 := xq_back hw tx f p61 p90 a1
  have tq := xq_role hw tx b1
  obtain ⟨fs, e, -⟩ := wt_obj hw tq (by decide)
  obtain ⟨fs2, e2, g2⟩ := (f q 0 tq).1 0 fs e
  rw [e2] at a2; cases a2
  exact ⟨q, fs, b1, e, by rw [← g2 0 p00]; exact a3⟩
theorem arv_down (hp : tPre τ τ1) (hu : UQ τ1) {r i : Nat} {x : Int32} (hr : 30 ≤ r) (h0 : ∃ k : Nat, τ[k]? = some r) (a : ARV τ1 h r i x) : ARV τ h r i x := by
  obtain ⟨k, t, xs, a1, a2, a3⟩ := a
  obtain ⟨k0, h0⟩ := h0
  have e := hu k k0 r (Or.inl hr) a1 (tup hp h0)
  subst e
  exact ⟨k, t, xs, h0, a2, a3⟩
theorem wt_role (hw : WT N pk τ h) (tm : τ[pm]? = some 7) {k r : Nat} (hk : (fts N pk 7)[k]? = some (.inr (r, false))) : ∃ q : Nat, τ[q]? = some r := by
  obtain ⟨fs, e, -⟩ := wt_obj hw tm (by decide)
  obtain ⟨q, -, tq⟩ := wt_ref (k := k) hw tm (by decide) e hk
  exact ⟨q, tq⟩
theorem li_step (L : LIt N pk τ h px pm ko) (hp : tPre τ τ1) (b0 : 0 ≤ pk') (b1 : pk' ≤ 64) (w : WT N pk' τ1 h') (f : Fr P τ h h') (p61 : P 6 1 = true) (p90 : P 9 0 = true) (p00 : P 0 0 = true) (p29 : ∀ j, P 29 j = true) (p32 : P 32 0 = true) (j1 : I1 τ1 h') (j2 : I2 τ1 h') : LIt N pk' τ1 h' px pm ko := by
  obtain ⟨c0, c1, hw, tx, tm, tk, ek, -, -, dis, same⟩ := L
  refine ⟨b0, b1, w, tup hp tx, tup hp tm, tup hp tk, ?_, j1, j2, fun i j q a b => dis i j q (xq_back hw tx f p61 p90 a) (xq_back hw tx f p61 p90 b), fun i x y hi a b => ?_⟩
  · rw [fr_k29 f p29 tk (t_at ek)]
    exact ek
  · exact same i x y hi (xl_back hw tx f p61 p90 p00 a) ((arv_down hp w.2.2.2 (by decide) (wt_role (k := 2) hw tm rfl) b).back f p32)
/-- the system's steps -/
theorem li_x (L : LIt N pk τ h px pm ko) (hp : tPre τ τ1) (b0 : 0 ≤ pk') (b1 : pk' ≤ 64) (w : WT N pk' τ1 h') (f : Fr P τ h h') (p61 : P 6 1 = true) (p90 : P 9 0 = true) (p00 : P 0 0 = true) (p29 : ∀ r j, 29 ≤ r → P r j = true) : LIt N pk' τ1 h' px pm ko := by
  obtain ⟨c0, c1, hw, tx, tm, tk, ek, i1, i2, dis, same⟩ := id L
  have dn : ∀ {k r i : Nat} {x : Int32}, (fts N pk 7)[k]? = some (.inr (r, false)) → 30 ≤ r → ARV τ1 h' r i x → ARV τ h r i x := fun hk hr a => (arv_down hp w.2.2.2 hr (wt_role hw tm hk) a).back f (p29 _ _ (by omega))
  refine li_step L hp b0 b1 w f p61 p90 p00 (fun j => p29 _ _ (by decide)) (p29 _ _ (by decide)) ?_ ?_
  · intro r l li k lo hi u hr hl hli a b c d e
    exact i1 r l li k lo hi u hr hl hli (dn (k := 9) rfl (by decide) a) b (dn (k := 3) rfl (by decide) c) (dn (k := 4) rfl (by decide) d) (dn (k := 5) rfl (by decide) e)
  · intro l u ld a b
    exact i2 l u ld (dn (k := 3) rfl (by decide) a) (dn (k := 2) rfl (by decide) b)
/-- the reference's steps -/
theorem li_m (L : LIt N pk τ h px pm ko) (w : WT N pk τ h') (f : Fr P τ h h') (p61 : P 6 1 = true) (p90 : P 9 0 = true) (p00 : P 0 0 = true) (p29 : ∀ j, P 29 j = true) (p32 : P 32 0 = true) (j1 : I1 τ h') (j2 : I2 τ h') : LIt N pk τ h' px pm ko :=
  li_step L ⟨[], by simp⟩ L.1 L.2.1 w f p61 p90 p00 p29 p32 j1 j2
theorem arv_set {q r i : Nat} {c : tC} {x : Int32} (tq : τ[q]? = some 0) (hr : r ≠ 0) (a : ARV τ (h.set q c) r i x) : ARV τ h r i x := by
  obtain ⟨k, t, xs, a1, a2, a3⟩ := a
  have e : q ≠ k := fun z => by subst z; rw [tq] at a1; exact hr (Option.some.inj a1).symm
  rw [List.getElem?_set_ne e] at a2
  exact ⟨k, t, xs, a1, a2, a3⟩
theorem xq_set (hw : WT N pk τ h) (tx : τ[px]? = some 6) {q i q' : Nat} {c : tC} (tq : τ[q]? = some 0) (a : XQ (h.set q c) px i q') : XQ h px i q' := by
  obtain ⟨fs, e, -⟩ := wt_obj hw tx (by decide)
  obtain ⟨kl, gk, tk⟩ := wt_ref (k := 1) hw tx (by decide) e rfl
  obtain ⟨fa, ka, ra, a1, a2, a3, a4⟩ := a
  have e1 : q ≠ px := fun z => by subst z; rw [tq] at tx; cases tx
  have e2 : q ≠ kl := fun z => by subst z; rw [tq] at tk; cases tk
  rw [List.getElem?_set_ne e1, e] at a1; cases a1
  rw [gk] at a2; cases a2
  rw [List.getElem?_set_ne e2] at a3
  exact ⟨_, _, ra, e, gk, a3, a4⟩
abbrev LRN (N : Nat) (a1 a2 a3 : Int32) : Prop := 0 ≤ a1.toInt ∧ a1.toInt ≤ 11 ∧ 0 ≤ a2.toInt ∧ a2.toInt ≤ (N : Int) - 1 ∧ 0 ≤ a3.toInt ∧ a3.toInt ≤ (N : Int) - 1
/-- what the helper says of a lay -/
def LHL (N : Nat) (pk : Int) (τ : List Nat) (h h1 : List tC) (px : Nat) (a1 a2 a3 a4 k : Int32) : Prop :=
  (k.toInt = 0 ∧ WT N pk τ h1 ∧ LAID h h1 px a1.toNatClampNeg ∧ LRN N a1 a2 a3 ∧ a2.toInt ≠ a3.toInt ∧ 1 ≤ a4.toInt ∧ a4.toInt ≤ 60) ∨ (k.toInt = 1 ∧ h1 = h ∧ ¬ LRN N a1 a2 a3) ∨ (k.toInt = 2 ∧ h1 = h ∧ LRN N a1 a2 a3 ∧ (a2.toInt = a3.toInt ∨ a4.toInt < 1 ∨ 60 < a4.toInt ∨ ∃ x : Int32, XL h px a1.toNatClampNeg x ∧ x.toInt ≠ 0))
/-- what the reference says of it -/
def LHM (N : Nat) (τ : List Nat) (h1 h2 : List tC) (a1 a2 a3 a4 t : Int32) : Prop :=
  (¬ LRN N a1 a2 a3 ∧ t.toInt = 1 ∧ Fr PMg τ h1 h2) ∨ (LRN N a1 a2 a3 ∧ t.toInt = 2 ∧ Fr PMg τ h1 h2 ∧ (a2.toInt = a3.toInt ∨ a4.toInt < 1 ∨ 60 < a4.toInt ∨ ∃ (k : Nat) (xs : List Int32) (v : Int32), τ[k]? = some 32 ∧ h1[k]? = some (.inl (1, xs)) ∧ xs[a1.toNatClampNeg]? = some v ∧ v.toInt ≠ 0)) ∨ (LRN N a1 a2 a3 ∧ t.toInt = 0 ∧ a2.toInt ≠ a3.toInt ∧ 1 ≤ a4.toInt ∧ a4.toInt ≤ 60 ∧ ∃ (k : Nat) (xs : List Int32) (v o : Int32), τ[k]? = some 32 ∧ h1[k]? = some (.inl (1, xs)) ∧ xs[a1.toNatClampNeg]? = some v ∧ v.toInt = 0 ∧ h2[k]? = some (.inl (1, xs.set a1.toNatClampNeg o)) ∧ o.toInt = 1)
theorem lay_mid (L : LIt N pk τ h px pm ko) {a1 a2 a3 a4 k : Int32} (hq : LHL N pk τ h h1 px a1 a2 a3 a4 k) : WT N pk τ h1 ∧ I1 τ h1 ∧ I2 τ h1 := by
  obtain ⟨c0, c1, hw, tx, tm, tk, ek, i1, i2, dis, same⟩ := L
  rcases hq with ⟨-, w1, ⟨q, x0, x1, y2, y3, y4, f1, f2, f3, f4, f5, xq, eq, -, -, rfl⟩, -⟩ | ⟨-, rfl, -⟩ | ⟨-, rfl, -⟩
  · have tq := xq_role hw tx xq
    refine ⟨w1, fun r l li k lo hi u hr hl hli a b c d e => ?_, fun l u ld a b => ?_⟩
    · exact i1 r l li k lo hi u hr hl hli (arv_set tq (by decide) a) b (arv_set tq (by decide) c) (arv_set tq (by decide) d) (arv_set tq (by decide) e)
    · exact i2 l u ld (arv_set tq (by decide) a) (arv_set tq (by decide) b)
  · exact ⟨hw, i1, i2⟩
  · exact ⟨hw, i1, i2⟩
theorem lay_end (L : LIt N pk τ h px pm ko) {a1 a2 a3 a4 k t : Int32} (hq : LHL N pk τ h h1 px a1 a2 a3 a4 k) (w2 : WT N pk τ h2) (f2 : Fr PMlay τ h1 h2) (j1 : I1 τ h2) (hm : LHM N τ h1 h2 a1 a2 a3 a4 t) : t.toInt = k.toInt ∧ LIt N pk τ h2 px pm ko := by
  obtain ⟨c0, c1, hw, tx, tm, tk, ek, i1, i2, dis, same⟩ := id L
  have hix : LRN N a1 a2 a3 → a1.toNatClampNeg < 12 := fun z => by
    have e : a1.toNatClampNeg = a1.toInt.toNat := rfl
    have := z.2.1
    omega
  rcases hq with ⟨hk, w1, ⟨q, x0, x1, y2, y3, y4, f1, f2', f3, f4, f5, xq, eq, hx0, hx1, e1⟩, hR, hne, hlo, hhi⟩ | ⟨hk, rfl, hR⟩ | ⟨hk, rfl, hR, hc⟩
  · have tq := xq_role hw tx xq
    have hi := hix hR
    rcases hm with ⟨hR', -⟩ | ⟨-, -, -, hc⟩ | ⟨-, ht, -, -, -, k0, xs, v, o, t0, eh1, gv, hv, eh2, ho⟩
    · exact absurd hR hR'
    · exfalso
      rcases hc with z | z | z | ⟨k0, xs, v, t0, eh1, gv, hv⟩
      · exact hne z
      · omega
      · omega
      · have a : ARV τ h 32 a1.toNatClampNeg v := arv_set (q := q) tq (by decide) (by rw [← e1]; exact ⟨k0, 1, xs, t0, eh1, gv⟩)
        exact absurd hx0 ((same _ x0 v hi ⟨q, _, xq, eq, rfl⟩ a).mpr hv)
    · refine ⟨by omega, c0, c1, w2, tx, tm, tk, ?_, j1, ?_, ?_, ?_⟩
      · have hne' : q ≠ ko := fun z => by subst z; rw [tq] at tk; cases tk
        have ek1 : h1[ko]? = some (.inl (9, [0])) := by rw [e1, List.getElem?_set_ne hne']; exact ek
        rw [fr_k29 f2 (fun j => rfl) tk (t_at ek1)]
        exact ek1
      · intro l u ld a b hu
        have a' : ARV τ h 33 l u := arv_set (q := q) tq (by decide) (by rw [← e1]; exact a.back f2 rfl)
        obtain ⟨k1, t1, ys, z1, z2, z3⟩ := b
        have e := w2.2.2.2 k1 k0 32 (by decide) z1 t0
        subst e
        rw [eh2] at z2; cases z2
        by_cases el : a1.toNatClampNeg = l
        · subst el
          rw [List.getElem?_set_self (t_at gv)] at z3
          cases z3
          omega
        · rw [List.getElem?_set_ne el] at z3
          exact i2 l u ld a' (arv_set (q := q) tq (by decide) (by rw [← e1]; exact ⟨k1, 1, xs, t0, eh1, z3⟩)) hu
      · intro i j q' a b
        have bk : ∀ {i : Nat}, XQ h2 px i q' → XQ h px i q' := fun z => xq_set (q := q) hw tx tq (by rw [← e1]; exact xq_back w1 tx f2 rfl rfl z)
        exact dis i j q' (bk a) (bk b)
      · intro j x y hj a b
        have a' := xl_back w1 tx f2 rfl rfl rfl a
        obtain ⟨k1, t1, ys, z1, z2, z3⟩ := b
        have e := w2.2.2.2 k1 k0 32 (by decide) z1 t0
        subst e
        rw [eh2] at z2; cases z2
        obtain ⟨q', fs', b1, b2, b3⟩ := a'
        have b1' : XQ h px j q' := xq_set (q := q) hw tx tq (by rw [← e1]; exact b1)
        by_cases el : a1.toNatClampNeg = j
        · subst el
          rw [List.getElem?_set_self (t_at gv)] at z3
          cases z3
          have := XQ.uq b1' xq
          subst this
          rw [e1, List.getElem?_set_self (t_at eq)] at b2
          cases b2
          cases b3
          constructor <;> intro _ <;> omega
        · rw [List.getElem?_set_ne el] at z3
          have hqq : q ≠ q' := fun z => by subst z; exact el (dis _ _ _ xq b1')
          rw [e1, List.getElem?_set_ne hqq] at b2
          exact same j x y hj ⟨q', fs', b1', b2, b3⟩ (arv_set (q := q) tq (by decide) (by rw [← e1]; exact ⟨k1, 1, xs, t0, eh1, z3⟩))
  · rcases hm with ⟨-, ht, fg⟩ | ⟨hR', -⟩ | ⟨hR', -⟩
    · exact ⟨by omega, li_m L w2 fg rfl rfl rfl (fun j => rfl) rfl j1 (i2_fr fg rfl rfl i2)⟩
    · exact absurd hR' hR
    · exact absurd hR' hR
  · rcases hm with ⟨hR', -⟩ | ⟨-, ht, fg, -⟩ | ⟨-, ht, hne, hlo, hhi, k0, xs, v, o, t0, eh1, gv, hv, -, -⟩
    · exact absurd hR hR'
    · exact ⟨by omega, li_m L w2 fg rfl rfl rfl (fun j => rfl) rfl j1 (i2_fr fg rfl rfl i2)⟩
    · exfalso
      rcases hc with z | z | z | ⟨x, xl, hx⟩
      · exact hne z
      · omega
      · omega
      · exact (same _ x v (hix hR) xl ⟨k0, 1, xs, t0, eh1, gv⟩).mp hx hv
end TLI
set_option maxHeartbeats 4000000 in
theorem g_X7_thrownE {l : Launch} {D : va_G} {h : List tC} (a0 : Nat) {t : Int32} (hT : THR h a0 t) : TMc l D yX7_thrown cX7_thrown 1 (some .int) 0 0 0 0 [.inr (some a0)] h (fun rv h' => h = h' ∧ rv = some (.inl t)) := by
  refine tmc_of false rfl (by decide) (Nat.le_of_ble_eq_true rfl) ?_
  obtain ⟨fs, e0, g0⟩ := hT
  suffices HQ : ∀ Q0, Q0 = tRt cX7_thrown (some .int) (fun rv h' => h = h' ∧ rv = some (.inl t)) → TT l D mX7_thrown Q0 0 0 0 [(0, .inr (some a0))] [] h from HQ _ rfl
  intro Q0 hQ
  refine tt_aload_n (pc := 0) dX7_thrown_0 (.head _) ?_
  refine tt_get (pc := 1) dX7_thrown_1 flX7_96 e0 g0 ?_
  refine tt_stop ?_
  rw [hQ]
  exact Or.inr (Or.inl ⟨t, dX7_thrown_4, rfl, Or.inl rfl, rfl, rfl⟩)
