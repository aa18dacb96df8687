theorem arv_len10 {N : Nat} {pk : Int} {τ : List Nat} {h : List tC} (hw : WT N pk τ h) {a0 : Nat} (ta : τ[a0]? = some 6) {i : Nat} {v : Int32} (a : ARV τ h 10 i v) : i < 8 := by
  obtain ⟨k, t, xs, a1, a2, a3⟩ := a
  obtain ⟨ys, e, l, -⟩ := wt_ints hw a1 rfl (by decide)
  rw [e] at a2
  cases a2
  have := t_at a3
  omega
theorem arv_len37 {N : Nat} {pk : Int} {τ : List Nat} {h : List tC} (hw : WT N pk τ h) {i : Nat} {v : Int32} (a : ARV τ h 37 i v) : i < 8 := by
  obtain ⟨k, t, xs, a1, a2, a3⟩ := a
  obtain ⟨ys, e, l, -⟩ := wt_ints hw a1 rfl (by decide)
  rw [e] at a2
  cases a2
  have := t_at a3
  omega
theorem fill_step {τ : List Nat} {h h2 : List tC} (hu : UQ τ) {r : Nat} (hr : 30 ≤ r ∨ (6 ≤ r ∧ r ≤ 11)) {q t n : Nat} {fs : List Int32} {x : Int32} (tq : τ[q]? = some r) (e : h[q]? = some (.inl (t, fs))) (g : h2[q]? = some (.inl (t, fs.set n x))) (hx : x.toInt = -1) {y y2 : Int32} (hy : y.toNatClampNeg = n) (hy0 : 0 ≤ y.toInt) (hy2 : y2.toInt = y.toInt + 1) (m : ∀ (i : Nat) (v : Int32), (i : Int) < y.toInt → ARV τ h r i v → v.toInt = -1) : ∀ (i : Nat) (v : Int32), (i : Int) < y2.toInt → ARV τ h2 r i v → v.toInt = -1 := by
  intro i v hi a
  obtain ⟨k, t', xs, a1, a2, a3⟩ := a
  have ek := hu k q r hr a1 tq
  subst ek
  rw [g] at a2
  cases a2
  have ey : y.toNatClampNeg = y.toInt.toNat := rfl
  by_cases en : n = i
  · subst en
    have hlt := t_at a3
    rw [List.length_set] at hlt
    rw [List.getElem?_set_self hlt] at a3
    cases a3
    exact hx
  · rw [List.getElem?_set_ne en] at a3
    exact m i v (by omega) ⟨k, t, fs, tq, e, a3⟩
abbrev mX6_init : tM := (RX6, cX6_init, 4, 4, 82, true)
set_option maxHeartbeats 4000000 in
theorem g_X6_initB {l : Launch} {D : va_G} {N : Nat} {pk : Int} {τ : List Nat} (hN2 : 2 ≤ N) (hN8 : N ≤ 8) (hp0 : 0 ≤ pk) (hp64 : pk ≤ 64) {h : List tC} (hw : WT N pk τ h) (a0 : Nat) (ta0 : τ[a0]? = some 6) : TT l D mX6_init (tRt cX6_init none (fun rv h' => WT N pk τ h' ∧ Fr PXa τ h h' ∧ (∀ (i : Nat) (v : Int32), ARV τ h' 10 i v → v.toInt = -1) ∧ rv = none)) 0 0 124 [(0, .inr (some a0))] [] h := by
  suffices HQ : ∀ Q0, Q0 = (tRt cX6_init none (fun rv h' => WT N pk τ h' ∧ Fr PXa τ h h' ∧ (∀ (i : Nat) (v : Int32), ARV τ h' 10 i v → v.toInt = -1) ∧ rv = none)) → TT l D mX6_init Q0 0 0 124 [(0, .inr (some a0))] [] h from HQ _ rfl
  intro Q0 hQ
  have hf : Fr PXa τ h h := Fr.rf
  have B126 : ∀ (n126 : Nat) (hb : List tC) (hwb : WT N pk τ hb) (hfb : Fr PXa τ h hb) (x65 : Int32) (lx65 : 0 ≤ x65.toInt) (ux65 : x65.toInt ≤ 8) (mb : ∀ (i : Nat) (v : Int32), (i : Int) < x65.toInt → ARV τ hb 10 i v → v.toInt = -1), 8 - x65.toInt < n126 → TT l D mX6_init Q0 0 0 126 [(0, .inr (some a0)), (3, .inl x65)] [] hb := by
    intro n126
    induction n126 with
    | zero =>
      intro hb hwb hfb x65 lx65 ux65 mb hn126
      exfalso
      omega
    | succ n126 ih126 =>
      intro hb hwb hfb x65 lx65 ux65 mb hn126
      refine tt_iload_n (pc := 126) dX6_init_126 (.tail _ (.head _)) ?_
      refine tw_bipush (pc := 127) dX6_init_127 (by decide) (fun x66 ex66 => ?_)
      refine tw_icmp (tgt := 145) (pc := 129) dX6_init_129 (by decide) (fun (c67 : x66.toInt ≤ x65.toInt) => ?_) (fun (c67 : ¬ (x66.toInt ≤ x65.toInt)) => ?_)
      · skip
        refine tt_stop ?_
        rw [hQ]
        exact Or.inl ⟨dX6_init_145, rfl, rfl, hwb, hfb, fun i v a9 => mb i v (by have := arv_len10 hwb ta0 a9; omega) a9, rfl⟩
      · skip
        refine tt_aload_n (pc := 132) dX6_init_132 (.head _) ?_
        refine tw_getr (pc := 133) dX6_init_133 flX6_15 hwb ta0 (by decide) rfl (fun f68 q69 ef68 gf68 tq69 => ?_)
        refine tt_iload_n (pc := 136) dX6_init_136 (.tail _ (.head _)) ?_
        refine tw_iconst (pc := 137) dX6_init_137 (by decide) (fun x70 ex70 => ?_)
        refine tw_ist (P := PXa) (pc := 138) dX6_init_138 hwb tq69 rfl (by omega) (by omega) (by omega) (by omega) (by decide) (fun f71 h72 eh72 gh72 kh72 wh72 fh72 => ?_)
        have hfh72 := hfb.tr fh72
        refine tw_iinc (pc := 139) dX6_init_139 (.tail _ (.head _)) (by decide) (by decide) (by omega) (fun x73 ex73 => ?_)
        show TT _ _ _ _ _ _ _ [(3, .inl x73), (0, .inr (some a0))] _ _
        refine tt_goto (tgt := 126) (pc := 142) dX6_init_142 (by decide) ?_
        refine tt_loc [(0, .inr (some a0)), (3, .inl x73)] (List.forall_mem_cons.mpr ⟨(.tail _ (.head _)), List.forall_mem_cons.mpr ⟨(.head _), fun _ z => absurd z List.not_mem_nil⟩⟩) ?_
        exact ih126 h72 wh72 hfh72 x73 (by omega) (by omega) (fill_step hwb.2.2.2 (by decide) tq69 eh72 gh72 (x := x70) (by omega) (y := x65) rfl (by omega) (by omega) mb) (by omega)
  refine tw_iconst (pc := 124) dX6_init_124 (by decide) (fun x74 ex74 => ?_)
  refine tt_istore_n (pc := 125) dX6_init_125 (by decide) ?_
  show TT _ _ _ _ _ _ _ [(3, .inl x74), (0, .inr (some a0))] _ _
  refine tt_loc [(0, .inr (some a0)), (3, .inl x74)] (List.forall_mem_cons.mpr ⟨(.tail _ (.head _)), List.forall_mem_cons.mpr ⟨(.head _), fun _ z => absurd z List.not_mem_nil⟩⟩) ?_
  exact B126 9 h hw hf x74 (by omega) (by omega) (fun i v hi => by omega) (by omega)
section TC5
variable {l : Launch} {D : va_G} {M : tM} {Q : Nat → tL → List tV → List tC → Prop} {kc ks pc : Nat} {loc : tL} {st : List tV} {h : List tC}
variable {N : Nat} {pk : Int} {τ : List Nat}
abbrev lab0 : tC := .inr (.inr (6, [.inr none, .inr none, .inr none, .inr none, .inl 0, .inl 0, .inr none]))
abbrev labX : tC := .inr (.inr (6, [.inr (some 5), .inr (some 1), .inr (some 2), .inr (some 3), .inl 0, .inl 0, .inr (some 4)]))
theorem wt_set29 (hw : WT N pk τ h) {a : Nat} {c : tC} (ht : τ[a]? = some 29) : WT N pk τ (h.set a c) := by
  refine ⟨by rw [List.length_set]; exact hw.1, fun k r' c' hk hc' h29 => ?_, fun ka kw kv xs ys zs h1 h2 h3 g1 g2 g3 => ?_, hw.2.2.2⟩
  · have e : a ≠ k := fun z => by subst z; rw [ht] at hk; exact h29 (Option.some.inj hk).symm
    rw [List.getElem?_set_ne e] at hc'
    exact hw.2.1 k r' c' hk hc' h29
  · have e1 : a ≠ ka := fun z => by subst z; rw [ht] at h1; cases h1
    have e2 : a ≠ kw := fun z => by subst z; rw [ht] at h2; cases h2
    have e3 : a ≠ kv := fun z => by subst z; rw [ht] at h3; cases h3
    rw [List.getElem?_set_ne e1] at g1
    rw [List.getElem?_set_ne e2] at g2
    rw [List.getElem?_set_ne e3] at g3
    exact hw.2.2.1 ka kw kv xs ys zs h1 h2 h3 g1 g2 g3
/-- the links' places differ -/
def DJ (H : List tC) (rs : List (Option Nat)) : Prop := ∀ (j q : Nat), rs[j]? = some (some q) → q < H.length ∧ ∀ j' : Nat, rs[j']? = some (some q) → j = j'
theorem xq_back {P : Nat → Nat → Bool} {h' : List tC} (hw : WT N pk τ h) {px : Nat} (tx : τ[px]? = some 6) (f : Fr P τ h h') (p61 : P 6 1 = true) (p90 : P 9 0 = true) {i q : Nat} (a : XQ h' px i q) : XQ h px i q := by
  obtain ⟨fs, e, -⟩ := wt_obj hw tx (by decide)
  obtain ⟨kl, gk, tk⟩ := wt_ref (k := 1) hw tx (by decide) e rfl
  obtain ⟨rs, er, -⟩ := wt_refs hw tk rfl (by decide)
  obtain ⟨fs', e', g'⟩ := fr_fld f tx p61 e gk
  have er' : h'[kl]? = h[kl]? := ((f kl 9 tk).2 (fun ci fs z => by rw [er] at z; cases z)).2 p90
  obtain ⟨fa, ka, ra, a1, a2, a3, a4⟩ := a
  rw [e'] at a1; cases a1
  rw [g'] at a2; cases a2
  rw [er', er] at a3; cases a3
  exact ⟨fs, kl, _, e, gk, er, a4⟩
def BLD (N : Nat) (τ : List Nat) (i1 i5 : Nat) (H : List tC) : Prop := ∃ (rs1 rs5 : List (Option Nat)), WT N 0 τ H ∧ (τ[0]? = some 29 ∧ τ[1]? = some 29 ∧ τ[2]? = some 10 ∧ τ[3]? = some 11 ∧ τ[4]? = some 1 ∧ τ[5]? = some 29) ∧ (∀ k r, 6 ≤ k → τ[k]? = some r → manyR r ∧ r ≠ 29) ∧ H[0]? = some labX ∧ H[1]? = some (.inr (.inl (3, rs1))) ∧ H[5]? = some (.inr (.inl (2, rs5))) ∧ rs1.length = 12 ∧ rs5.length = N ∧ (∀ j, j < i1 → ∃ q, rs1[j]? = some (some q) ∧ τ[q]? = some 0) ∧ (∀ j, j < i5 → ∃ q, rs5[j]? = some (some q) ∧ τ[q]? = some 4) ∧ L0 τ H ∧ DJ H rs1

theorem bld_r {H : List tC} {τ : List Nat} {i1 i5 : Nat} (b : BLD N τ i1 i5 H) (hi : i5 < N) {c0 : tC} {H' : List tC} (m : MADE N (τ ++ [29]) (H ++ [c0]) H.length 4 H') : ∃ (rs : List (Option Nat)) (fs : List tV), H'[5]? = some (.inr (.inl (2, rs))) ∧ i5 < rs.length ∧ H'[H.length]? = some (.inr (.inr (4, fs))) ∧ H'[0]? = some labX ∧ ∃ τ' : List Nat, BLD N τ' (i1) (i5 + 1) (H'.set 5 (.inr (.inl (2, rs.set i5 (some H.length))))) := by
  obtain ⟨rs1, rs5, hw, ⟨t0, t1, t2, t3, t4, t5⟩, hm, e0, e1, e5, l1, l5, q1, q5, l0, dj⟩ := b
  obtain ⟨τ', w', k', ta, km, kk, kl⟩ := m
  have lt : H.length = τ.length := hw.1
  have l6 := t_at e5
  have l6' := t_at t5
  have up : ∀ (k r : Nat), τ[k]? = some r → τ'[k]? = some r := fun k r hr => k' k r (by have := t_at hr; omega) (by rw [List.getElem?_append_left (t_at hr)]; exact hr)
  have kp : ∀ k : Nat, τ[k]? = some 29 → H'[k]? = H[k]? := fun k hr => by
    rw [kk k (by have := t_at hr; omega) (by rw [List.getElem?_append_left (t_at hr)]; exact hr), List.getElem?_append_left (by have := t_at hr; omega)]
  have g0 := (kp 0 t0).trans e0
  have g1 := (kp 1 t1).trans e1
  have g5 := (kp 5 t5).trans e5
  have u0 := up 0 _ t0
  have u1 := up 1 _ t1
  have u2 := up 2 _ t2
  have u3 := up 3 _ t3
  have u4 := up 4 _ t4
  have u5 := up 5 _ t5
  obtain ⟨fs, ef, -⟩ := wt_obj w' ta (by decide)
  have l0' : L0 (τ ++ [29]) (H ++ [c0]) := fun q fs0 hq hf => by
    by_cases hl : q < τ.length
    · rw [List.getElem?_append_left hl] at hq
      rw [List.getElem?_append_left (by omega)] at hf
      exact l0 q fs0 hq hf
    · rw [List.getElem?_append_right (by omega)] at hq
      exact absurd (List.mem_of_getElem? hq) (by decide)
  have lz := kl l0'
  have z5 := g5
  refine ⟨rs5, fs, g5, by omega, ef, g0, τ', rs1, rs5.set i5 (some H.length), wt_set29 w' u5, ⟨u0, u1, u2, u3, u4, u5⟩, fun k r hk hr => ?_, by rw [List.getElem?_set_ne (by decide)]; exact g0, by rw [List.getElem?_set_ne (by decide)]; exact g1, List.getElem?_set_self (t_at g5), l1, by rw [List.length_set]; exact l5, fun j hj => ?_, fun j hj => ?_, fun q fs0 hq hf => ?_, fun j q hj => ?_⟩
  · by_cases hk1 : k < τ.length
    · obtain ⟨r0, hr0⟩ : ∃ r0, τ[k]? = some r0 := ⟨_, List.getElem?_eq_getElem hk1⟩
      rw [up k r0 hr0] at hr
      cases hr
      exact hm k r hk hr0
    · by_cases hk2 : k = H.length
      · subst hk2
        rw [ta] at hr
        cases hr
        decide
      · exact km k r (by rw [List.length_append]; simp; omega) hr
  · obtain ⟨q, x1, x2⟩ := q1 j hj
    exact ⟨q, x1, up q _ x2⟩
  · by_cases e : i5 = j
    · subst e
      exact ⟨H.length, List.getElem?_set_self (by omega), ta⟩
    · obtain ⟨q, x1, x2⟩ := q5 j (by omega)
      exact ⟨q, by rw [List.getElem?_set_ne e]; exact x1, up q _ x2⟩
  · have hne : 5 ≠ q := fun z => by subst z; rw [u5] at hq; cases hq
    rw [List.getElem?_set_ne hne] at hf
    exact lz q fs0 hq hf
  · have hlt := t_at ef
    obtain ⟨x1, x2⟩ := dj j q hj
    exact ⟨by rw [List.length_set]; omega, x2⟩


theorem bld_l {H : List tC} {τ : List Nat} {i1 i5 : Nat} (b : BLD N τ i1 i5 H) (hi : i1 < 12) {c0 : tC} {H' : List tC} (m : MADE N (τ ++ [29]) (H ++ [c0]) H.length 0 H') : ∃ (rs : List (Option Nat)) (fs : List tV), H'[1]? = some (.inr (.inl (3, rs))) ∧ i1 < rs.length ∧ H'[H.length]? = some (.inr (.inr (0, fs))) ∧ H'[0]? = some labX ∧ ∃ τ' : List Nat, BLD N τ' (i1 + 1) (i5) (H'.set 1 (.inr (.inl (3, rs.set i1 (some H.length))))) := by
  obtain ⟨rs1, rs5, hw, ⟨t0, t1, t2, t3, t4, t5⟩, hm, e0, e1, e5, l1, l5, q1, q5, l0, dj⟩ := b
  obtain ⟨τ', w', k', ta, km, kk, kl⟩ := m
  have lt : H.length = τ.length := hw.1
  have l6 := t_at e5
  have l6' := t_at t5
  have up : ∀ (k r : Nat), τ[k]? = some r → τ'[k]? = some r := fun k r hr => k' k r (by have := t_at hr; omega) (by rw [List.getElem?_append_left (t_at hr)]; exact hr)
  have kp : ∀ k : Nat, τ[k]? = some 29 → H'[k]? = H[k]? := fun k hr => by
    rw [kk k (by have := t_at hr; omega) (by rw [List.getElem?_append_left (t_at hr)]; exact hr), List.getElem?_append_left (by have := t_at hr; omega)]
  have g0 := (kp 0 t0).trans e0
  have g1 := (kp 1 t1).trans e1
  have g5 := (kp 5 t5).trans e5
  have u0 := up 0 _ t0
  have u1 := up 1 _ t1
  have u2 := up 2 _ t2
  have u3 := up 3 _ t3
  have u4 := up 4 _ t4
  have u5 := up 5 _ t5
  obtain ⟨fs, ef, -⟩ := wt_obj w' ta (by decide)
  have l0' : L0 (τ ++ [29]) (H ++ [c0]) := fun q fs0 hq hf => by
    by_cases hl : q < τ.length
    · rw [List.getElem?_append_left hl] at hq
      rw [List.getElem?_append_left (by omega)] at hf
      exact l0 q fs0 hq hf
    · rw [List.getElem?_append_right (by omega)] at hq
      exact absurd (List.mem_of_getElem? hq) (by decide)
  have lz := kl l0'
  have z1 := g1
  refine ⟨rs1, fs, g1, by omega, ef, g0, τ', rs1.set i1 (some H.length), rs5, wt_set29 w' u1, ⟨u0, u1, u2, u3, u4, u5⟩, fun k r hk hr => ?_, by rw [List.getElem?_set_ne (by decide)]; exact g0, List.getElem?_set_self (t_at g1), by rw [List.getElem?_set_ne (by decide)]; exact g5, by rw [List.length_set]; exact l1, l5, fun j hj => ?_, fun j hj => ?_, fun q fs0 hq hf => ?_, fun j q hj => ?_⟩
  · by_cases hk1 : k < τ.length
    · obtain ⟨r0, hr0⟩ : ∃ r0, τ[k]? = some r0 := ⟨_, List.getElem?_eq_getElem hk1⟩
      rw [up k r0 hr0] at hr
      cases hr
      exact hm k r hk hr0
    · by_cases hk2 : k = H.length
      · subst hk2
        rw [ta] at hr
        cases hr
        decide
      · exact km k r (by rw [List.length_append]; simp; omega) hr
  · by_cases e : i1 = j
    · subst e
      exact ⟨H.length, List.getElem?_set_self (by omega), ta⟩
    · obtain ⟨q, x1, x2⟩ := q1 j (by omega)
      exact ⟨q, by rw [List.getElem?_set_ne e]; exact x1, up q _ x2⟩
  · obtain ⟨q, x1, x2⟩ := q5 j hj
    exact ⟨q, x1, up q _ x2⟩
  · have hne : 1 ≠ q := fun z => by subst z; rw [u1] at hq; cases hq
    rw [List.getElem?_set_ne hne] at hf
    exact lz q fs0 hq hf
  · have hlt := t_at ef
    have key : ∀ (j' q' : Nat), (rs1.set i1 (some H.length))[j']? = some (some q') → (j' = i1 ∧ q' = H.length) ∨ (j' ≠ i1 ∧ rs1[j']? = some (some q') ∧ q' < H.length) := by
      intro j' q' h'
      by_cases e : i1 = j'
      · subst e
        rw [List.getElem?_set_self (by omega)] at h'
        cases h'
        exact Or.inl ⟨rfl, rfl⟩
      · rw [List.getElem?_set_ne e] at h'
        exact Or.inr ⟨fun z => e z.symm, h', (dj j' q' h').1⟩
    refine ⟨by rw [List.length_set]; rcases key j q hj with z | z <;> omega, fun j' hj' => ?_⟩
    rcases key j q hj with ⟨z1, z2⟩ | ⟨z1, z2, z3⟩ <;> rcases key j' q hj' with ⟨y1, y2⟩ | ⟨y1, y2, y3⟩
    · omega
    · omega
    · omega
    · exact (dj j q z2).2 j' y2


theorem bld0 (hN : 2 ≤ N) : BLD N [29, 29, 10, 11, 1, 29] 0 0 [labX, .inr (.inl (3, List.replicate 12 none)), .inl (0, List.replicate 8 0), .inr (.inl (4, List.replicate 64 none)), msg0, .inr (.inl (2, List.replicate N none))] := by
  have rl : ∀ (k r : Nat), ([29, 29, 10, 11, 1, 29] : List Nat)[k]? = some r → (k = 0 ∧ r = 29) ∨ (k = 1 ∧ r = 29) ∨ (k = 2 ∧ r = 10) ∨ (k = 3 ∧ r = 11) ∨ (k = 4 ∧ r = 1) ∨ (k = 5 ∧ r = 29) := by
    intro k r hk
    match k, hk with
    | 0, hk => cases hk; simp
    | 1, hk => cases hk; simp
    | 2, hk => cases hk; simp
    | 3, hk => cases hk; simp
    | 4, hk => cases hk; simp
    | 5, hk => cases hk; simp
    | n + 6, hk => simp at hk
  refine ⟨_, _, ⟨rfl, fun k r c hk hc h29 => ?_, fun ka kw kv xs ys zs h1 => ?_, fun k k' r hr h1 h2 => ?_⟩, ⟨rfl, rfl, rfl, rfl, rfl, rfl⟩, fun k r hk hr => ?_, rfl, rfl, rfl, by simp, by simp, fun j hj => by omega, fun j hj => by omega, fun q fs hq => ?_, fun j q hj => ?_⟩
  · rcases rl k r hk with ⟨rfl, rfl⟩ | ⟨rfl, rfl⟩ | ⟨rfl, rfl⟩ | ⟨rfl, rfl⟩ | ⟨rfl, rfl⟩ | ⟨rfl, rfl⟩
    · exact absurd rfl h29
    · exact absurd rfl h29
    · cases hc
      exact conf_z (by decide) rfl ⟨by decide, by omega⟩
    · cases hc
      exact ⟨by decide, ⟨64, _, rfl, by simp, fun q hq => by rw [List.eq_of_mem_replicate hq]; rfl⟩, fun _ j _ => by omega⟩
    · cases hc
      exact conf_msg
    · exact absurd rfl h29
  · have := rl ka 42 h1
    omega
  · have := rl k r h1
    have := rl k' r h2
    omega
  · have := rl k r hr
    omega
  · have := rl q 0 hq
    omega
  · cases t_rep hj
/-- the roles behind the constructor -/
def ROL (τ : List Nat) : Prop := ∀ (k r : Nat), τ[k]? = some r → (k = 0 ∧ r = 6) ∨ (k = 1 ∧ r = 9) ∨ (k = 2 ∧ r = 10) ∨ (k = 3 ∧ r = 11) ∨ (k = 4 ∧ r = 1) ∨ (k = 5 ∧ r = 8) ∨ (6 ≤ k ∧ manyR r ∧ r ≠ 29)
theorem bld_fin {H : List tC} (b : BLD N τ 12 N H) : ∃ τ' : List Nat, WT N 0 τ' H ∧ τ'[0]? = some 6 ∧ ROL τ' ∧ L0 τ' H ∧ (∀ i j q : Nat, XQ H 0 i q → XQ H 0 j q → i = j) := by
  obtain ⟨rs1, rs5, hw, ⟨t0, t1, t2, t3, t4, t5⟩, hm, e0, e1, e5, l1, l5, q1, q5, l0, dj⟩ := b
  have l6 := t_at t5
  have u0 : (((τ.set 0 6).set 1 9).set 5 8)[0]? = some 6 := by rw [List.getElem?_set_ne (by decide), List.getElem?_set_ne (by decide), List.getElem?_set_self (t_at t0)]
  have u1 : (((τ.set 0 6).set 1 9).set 5 8)[1]? = some 9 := by rw [List.getElem?_set_ne (by decide), List.getElem?_set_self (by rw [List.length_set]; exact t_at t1)]
  have u5 : (((τ.set 0 6).set 1 9).set 5 8)[5]? = some 8 := by rw [List.getElem?_set_self (by rw [List.length_set, List.length_set]; exact t_at t5)]
  have ue : ∀ k : Nat, k ≠ 0 → k ≠ 1 → k ≠ 5 → (((τ.set 0 6).set 1 9).set 5 8)[k]? = τ[k]? := fun k k0 k1 k5 => by
    rw [List.getElem?_set_ne (Ne.symm k5), List.getElem?_set_ne (Ne.symm k1), List.getElem?_set_ne (Ne.symm k0)]
  have up : ∀ (q r : Nat), r ≠ 29 → τ[q]? = some r → (((τ.set 0 6).set 1 9).set 5 8)[q]? = some r := fun q r hr hq => by
    rw [ue q (fun z => by subst z; rw [t0] at hq; cases hq; exact hr rfl) (fun z => by subst z; rw [t1] at hq; cases hq; exact hr rfl) (fun z => by subst z; rw [t5] at hq; cases hq; exact hr rfl)]
    exact hq
  obtain ⟨σ, hσ⟩ : ∃ z, z = ((τ.set 0 6).set 1 9).set 5 8 := ⟨_, rfl⟩
  have ls : σ.length = τ.length := by rw [hσ]; simp
  rw [← hσ] at u0 u1 u5 ue up
  have rol : ROL σ := by
    intro k r hk
    by_cases k0 : k = 0
    · subst k0; rw [u0] at hk; cases hk; simp
    by_cases k1 : k = 1
    · subst k1; rw [u1] at hk; cases hk; simp
    by_cases k5 : k = 5
    · subst k5; rw [u5] at hk; cases hk; simp
    rw [ue k k0 k1 k5] at hk
    by_cases k2 : k = 2
    · subst k2; rw [t2] at hk; cases hk; simp
    by_cases k3 : k = 3
    · subst k3; rw [t3] at hk; cases hk; simp
    by_cases k4 : k = 4
    · subst k4; rw [t4] at hk; cases hk; simp
    have := hm k r (by omega) hk
    exact Or.inr (Or.inr (Or.inr (Or.inr (Or.inr (Or.inr ⟨by omega, this⟩)))))
  refine ⟨σ, ⟨by rw [ls]; exact hw.1, fun k r c hk hc h29 => ?_, fun ka kw kv xs ys zs h1 => ?_, fun k k' r hr h1 h2 => ?_⟩, u0, rol, fun q fs hq hf => ?_, fun i j q a b => ?_⟩
  · by_cases k0 : k = 0
    · subst k0
      rw [u0] at hk; cases hk
      rw [e0] at hc; cases hc
      refine ⟨rfl, by decide, rfl, fun j ft v hj hv => ?_, fun z => by cases z⟩
      match j, hj, hv with
      | 0, hj, hv => cases hj; cases hv; exact u5
      | 1, hj, hv => cases hj; cases hv; exact u1
      | 2, hj, hv => cases hj; cases hv; exact up 2 10 (by decide) t2
      | 3, hj, hv => cases hj; cases hv; exact up 3 11 (by decide) t3
      | 4, hj, hv => cases hj; cases hv; exact ⟨by decide, by decide⟩
      | 5, hj, hv => cases hj; cases hv; exact ⟨by decide, by decide⟩
      | 6, hj, hv => cases hj; cases hv; exact up 4 1 (by decide) t4
      | n + 7, hj, _ => simp [fts] at hj
    by_cases k1 : k = 1
    · subst k1
      rw [u1] at hk; cases hk
      rw [e1] at hc; cases hc
      refine ⟨by decide, ⟨12, _, rfl, l1, fun q hq => ?_⟩, fun z => by cases z⟩
      obtain ⟨j, hj, rfl⟩ := List.mem_iff_getElem.mp hq
      obtain ⟨q', x1, x2⟩ := q1 j (by omega)
      have x3 := List.getElem?_eq_getElem hj
      rw [x1] at x3
      rw [← Option.some.inj x3]
      exact up q' 0 (by decide) x2
    by_cases k5 : k = 5
    · subst k5
      rw [u5] at hk; cases hk
      rw [e5] at hc; cases hc
      refine ⟨by decide, ⟨N, _, rfl, l5, fun q hq => ?_⟩, fun z => by cases z⟩
      obtain ⟨j, hj, rfl⟩ := List.mem_iff_getElem.mp hq
      obtain ⟨q', x1, x2⟩ := q5 j (by omega)
      have x3 := List.getElem?_eq_getElem hj
      rw [x1] at x3
      rw [← Option.some.inj x3]
      exact up q' 4 (by decide) x2
    rw [ue k k0 k1 k5] at hk
    exact conf_as up (hw.2.1 k r c hk hc h29)
  · have := rol ka 42 h1
    unfold manyR at this
    omega
  · have a1 := rol k r h1
    have a2 := rol k' r h2
    unfold manyR at a1 a2
    omega
  · have q0 : q ≠ 0 := fun z => by subst z; rw [u0] at hq; cases hq
    have q1 : q ≠ 1 := fun z => by subst z; rw [u1] at hq; cases hq
    have q5 : q ≠ 5 := fun z => by subst z; rw [u5] at hq; cases hq
    rw [ue q q0 q1 q5] at hq
    exact l0 q fs hq hf
  · obtain ⟨fa, ka, ra, a1, a2, a3, a4⟩ := a
    obtain ⟨fb, kb, rb, b1, b2, b3, b4⟩ := b
    rw [e0] at a1 b1
    cases a1; cases b1
    cases a2; cases b2
    rw [e1] at a3 b3
    cases a3; cases b3
    exact (dj i q a4).2 j b4
/-- how many routers -/
def cN (x : Int32) : Nat := if x.toInt < 2 then 2 else if 8 < x.toInt then 8 else x.toInt.toNat
theorem cN_b (x : Int32) : 2 ≤ cN x ∧ cN x ≤ 8 := by
  unfold cN
  split
  · omega
  · split <;> omega
set_option maxHeartbeats 8000000 in
theorem g_X6_init (x : Int32) : TMc l D yX6_init cX6_init 4 none 4 82 733 6770 [.inr (some 0), .inl x] [lab0] (fun rv h' => (∃ τ : List Nat, WT (cN x) 0 τ h' ∧ τ[0]? = some 6 ∧ ROL τ ∧ L0 τ h' ∧ (∀ (i : Nat) (v : Int32), ARV τ h' 10 i v → v.toInt = -1) ∧ (∀ i j q : Nat, XQ h' 0 i q → XQ h' 0 j q → i = j)) ∧ rv = none) := by
  refine tmc_of true rfl (by decide) (Nat.le_of_ble_eq_true rfl) ?_
  suffices HQ : ∀ Q0, Q0 = tRt cX6_init none (fun rv h' => (∃ τ : List Nat, WT (cN x) 0 τ h' ∧ τ[0]? = some 6 ∧ ROL τ ∧ L0 τ h' ∧ (∀ (i : Nat) (v : Int32), ARV τ h' 10 i v → v.toInt = -1) ∧ (∀ i j q : Nat, XQ h' 0 i q → XQ h' 0 j q → i = j)) ∧ rv = none) → TT l D mX6_init Q0 733 6770 0 [(0, .inr (some 0)), (1, .inl x)] [] (HH [lab0] 0 6 [.inr none, .inr none, .inr none, .inr none, .inl 0, .inl 0, .inr none] []) from HQ _ rfl
  intro Q0 hQ
  have ha : 0 < [lab0].length := by decide
  obtain ⟨hN2, hN8⟩ := cN_b x
  have bx := i_ty x
  have B99 : ∀ (n i : Nat) (s y : Int32) (H : List tC) (τ : List Nat), i + n = 12 → y.toInt = i → BLD (cN x) τ i (cN x) H → TT l D mX6_init Q0 (38 * n) (238 * n) 99 [(0, .inr (some 0)), (1, .inl x), (2, .inl s), (3, .inl y)] [] H := by
    intro n
    induction n with
    | zero =>
      intro i s y H τ hi hy b
      refine tt_iload_n (pc := 99) dX6_init_99 (.tail _ (.tail _ (.tail _ (.head _)))) ?_
      refine tw_bipush (pc := 100) dX6_init_100 (by decide) (fun z hz => ?_)
      refine tw_icmp (tgt := 124) (pc := 102) dX6_init_102 (by decide) (fun _ => ?_) (fun c => absurd (show y.toInt ≥ z.toInt by omega) c)
      have : i = 12 := by omega
      subst this
      obtain ⟨σ, w, tσ, rol, l0, dx⟩ := bld_fin b
      refine tt_loc [(0, .inr (some 0))] (by simp) ?_
      refine tt_mono ?_ (g_X6_initB hN2 hN8 (by decide) (by decide) w 0 tσ)
      intro pc' loc' st' h' hq
      rw [hQ]
      rcases hq with ⟨d, z, z2, wE, fE, mE, z3⟩ | ⟨x', d, -, hr, -⟩ | ⟨v, C, d, -, hr, -⟩
      · exact Or.inl ⟨d, rfl, z2, ⟨σ, wE, tσ, rol, fr_l0 fE rfl rfl w.1 l0, mE, fun i j q a b => dx i j q (xq_back w tσ fE rfl rfl a) (xq_back w tσ fE rfl rfl b)⟩, z3⟩
      · rcases hr with hr | ⟨hr, -⟩ <;> cases hr
      · cases hr
    | succ n ih =>
      intro i s y H τ hi hy b
      refine tt_iload_n (pc := 99) dX6_init_99 (.tail _ (.tail _ (.tail _ (.head _)))) ?_
      refine tw_bipush (pc := 100) dX6_init_100 (by decide) (fun z hz => ?_)
      refine tw_icmp (tgt := 124) (pc := 102) dX6_init_102 (by decide) (fun c => ?_) (fun _ => ?_)
      · exfalso
        have c : y.toInt ≥ z.toInt := c
        omega
      have b' := b
      obtain ⟨rs1, rs5, hw, tt9, hm, e0, e1, e5, l1, l5, q1, q5, l0⟩ := b'
      refine tt_aload_n (pc := 105) dX6_init_105 (.head _) ?_
      refine tt_get (pc := 106) dX6_init_106 flX6_11 e0 rfl ?_
      refine tt_iload_n (pc := 109) dX6_init_109 (.tail _ (.tail _ (.tail _ (.head _)))) ?_
      refine tt_less (kc' := 37 + 38 * n + 1) (ks' := 232 + 238 * n + 6) (by omega) (by omega) ?_
      refine cn_X0 (pc := 110) dX6_init_110 klX6_9 ?_
      refine tt_dup (pc := 113) dX6_init_113 ?_
      have wn : WT (cN x) 0 (τ ++ [29]) (H ++ [lnk0]) := wt_addL hw rfl (by decide) (fun j r c h1 _ h29 => by
        have := List.mem_of_getElem? h1
        simp at this
        exact absurd this h29)
      have tn : (τ ++ [29])[H.length]? = some 29 := by rw [hw.1]; exact tlast_at τ 29
      have en : (H ++ [lnk0])[H.length]? = some lnk0 := by simp
      refine tt_callI (kc := 38 * n) (ks := 238 * n) (mc := 37) (ms := 232) (as := []) (pc := 114) dX6_init_114 lkX6_57 imX0_init rfl rfl (by decide) (by decide) (Nat.le_of_ble_eq_true rfl) (g_X0_init _ en) (fun rv h9 q9 => ?_)
      obtain ⟨eh9, rfl⟩ := q9
      have md := made_lnk wn hN2 tn
      rw [← eh9] at md
      obtain ⟨rs, fs, p1, p2, p3, p4, τ', b2⟩ := bld_l b (by omega) md
      show TT _ _ _ _ _ _ _ _ [.inr (some H.length), .inl y, .inr (some 1)] _
      refine tt_aast (pc := 117) (t := 3) (ci := 0) dX6_init_117 p1 p3 rfl rfl (i_nn (by omega)) (by rw [i_ix hy]; exact p2) ?_
      rw [i_ix hy]
      refine tw_iinc (pc := 118) dX6_init_118 (.tail _ (.tail _ (.tail _ (.head _)))) (by decide) (by decide) (by omega) (fun y2 hy2 => ?_)
      refine tt_goto (tgt := 99) (pc := 121) dX6_init_121 (by decide) ?_
      refine tt_loc [(0, .inr (some 0)), (1, .inl x), (2, .inl s), (3, .inl y2)] (by simp [tSt]) ?_
      exact ih (i + 1) s y2 _ τ' (by omega) (by omega) b2
  have B72 : ∀ (n i : Nat) (s y : Int32) (H : List tC) (τ : List Nat), i + n = cN x → s.toInt = cN x → y.toInt = i → BLD (cN x) τ 0 i H → TT l D mX6_init Q0 (34 * n + 456) (477 * n + 2856) 72 [(0, .inr (some 0)), (1, .inl x), (2, .inl s), (3, .inl y)] [] H := by
    intro n
    induction n with
    | zero =>
      intro i s y H τ hi hs hy b
      refine tt_iload_n (pc := 72) dX6_init_72 (.tail _ (.tail _ (.tail _ (.head _)))) ?_
      refine tt_iload_n (pc := 73) dX6_init_73 (.tail _ (.tail _ (.head _))) ?_
      refine tw_icmp (tgt := 97) (pc := 74) dX6_init_74 (by decide) (fun _ => ?_) (fun c => absurd (show y.toInt ≥ s.toInt by omega) c)
      have : i = cN x := by omega
      subst this
      refine tw_iconst (pc := 97) dX6_init_97 (by decide) (fun z hz => ?_)
      refine tt_istore_n (pc := 98) dX6_init_98 (by decide) ?_
      show TT l D mX6_init Q0 _ _ _ (tSt _ 3 (.inl z)) [] _
      refine tt_loc [(0, .inr (some 0)), (1, .inl x), (2, .inl s), (3, .inl z)] (by simp [tSt]) ?_
      exact tt_less (by omega) (by omega) (B99 12 0 s z H τ rfl (by omega) b)
    | succ n ih =>
      intro i s y H τ hi hs hy b
      refine tt_iload_n (pc := 72) dX6_init_72 (.tail _ (.tail _ (.tail _ (.head _)))) ?_
      refine tt_iload_n (pc := 73) dX6_init_73 (.tail _ (.tail _ (.head _))) ?_
      refine tw_icmp (tgt := 97) (pc := 74) dX6_init_74 (by decide) (fun c => ?_) (fun _ => ?_)
      · exfalso
        have c : y.toInt ≥ s.toInt := c
        omega
      have b' := b
      obtain ⟨rs1, rs5, hw, tt9, hm, e0, e1, e5, l1, l5, q1, q5, l0⟩ := b'
      refine tt_aload_n (pc := 77) dX6_init_77 (.head _) ?_
      refine tt_get (pc := 78) dX6_init_78 flX6_50 e0 rfl ?_
      refine tt_iload_n (pc := 81) dX6_init_81 (.tail _ (.tail _ (.tail _ (.head _)))) ?_
      refine tt_less (kc' := 33 + (34 * n + 456) + 1) (ks' := 468 + (477 * n + 2856) + 9) (by omega) (by omega) ?_
      refine cn_X4 (pc := 82) dX6_init_82 klX6_48 ?_
      refine tt_dup (pc := 85) dX6_init_85 ?_
      refine tt_iload_n (pc := 86) dX6_init_86 (.tail _ (.tail _ (.tail _ (.head _)))) ?_
      have wn : WT (cN x) 0 (τ ++ [29]) (H ++ [rtr0]) := wt_addL hw rfl (by decide) (fun j r c h1 _ h29 => by
        have := List.mem_of_getElem? h1
        simp at this
        exact absurd this h29)
      have tn : (τ ++ [29])[H.length]? = some 29 := by rw [hw.1]; exact tlast_at τ 29
      have en : (H ++ [rtr0])[H.length]? = some rtr0 := by simp
      refine tt_callI (kc := 34 * n + 456) (ks := 477 * n + 2856) (mc := 33) (ms := 468) (a := H.length) (as := [.inl y]) (st := [.inr (some H.length), .inl y, .inr (some 5)]) (pc := 87) dX6_init_87 lkX6_54 imX4_init rfl rfl (by decide) (by decide) (Nat.le_of_ble_eq_true rfl) (g_X4_init hN2 hN8 wn _ tn en y (by omega)) (fun rv h9 q9 => ?_)
      obtain ⟨md, rfl⟩ := q9
      obtain ⟨rs, fs, p1, p2, p3, p4, τ', b2⟩ := bld_r b (by omega) md
      show TT _ _ _ _ _ _ _ _ [.inr (some H.length), .inl y, .inr (some 5)] _
      refine tt_aast (pc := 90) (t := 2) (ci := 4) dX6_init_90 p1 p3 rfl rfl (i_nn (by omega)) (by rw [i_ix hy]; exact p2) ?_
      rw [i_ix hy]
      refine tw_iinc (pc := 91) dX6_init_91 (.tail _ (.tail _ (.tail _ (.head _)))) (by decide) (by decide) (by omega) (fun y2 hy2 => ?_)
      refine tt_goto (tgt := 72) (pc := 94) dX6_init_94 (by decide) ?_
      refine tt_loc [(0, .inr (some 0)), (1, .inl x), (2, .inl s), (3, .inl y2)] (by simp [tSt]) ?_
      exact ih (i + 1) s y2 _ τ' (by omega) hs (by omega) b2

  refine tt_aload_n (pc := 0) dX6_init_0 (.head _) ?_
  refine tt_obj (pc := 1) dX6_init_1 olX6_1 oi_obj oc_obj (by decide) (Nat.le_of_ble_eq_true rfl) ?_
  refine tt_aload_n (pc := 4) dX6_init_4 (.head _) ?_
  refine tt_bipush (pc := 5) dX6_init_5 ?_
  refine cc_newq (pc := 7) (t := 3) (len := 12) dX6_init_7 rfl klX6_9 (fun U hU => hU.2.2.2.1) (by decide) (by decide) (by decide) ?_
  refine cc_put (pc := 10) dX6_init_10 flX6_11 (Or.inr ⟨rfl, _, _, rfl⟩) ha (Nat.le_of_ble_eq_true rfl) rfl ?_
  refine tt_aload_n (pc := 13) dX6_init_13 (.head _) ?_
  refine tt_bipush (pc := 14) dX6_init_14 ?_
  refine cc_newa (pc := 16) (t := 0) (len := 8) dX6_init_16 rfl (by decide) ka_int (by decide) (by decide) (by decide) ?_
  refine cc_put (pc := 18) dX6_init_18 flX6_15 (Or.inr ⟨rfl, _, _, rfl⟩) ha (Nat.le_of_ble_eq_true rfl) rfl ?_
  refine tt_aload_n (pc := 21) dX6_init_21 (.head _) ?_
  refine tt_bipush (pc := 22) dX6_init_22 ?_
  refine cc_newq (pc := 24) (t := 4) (len := 64) dX6_init_24 rfl klX6_19 (fun U hU => hU.2.2.2.2.1) (by decide) (by decide) (by decide) ?_
  refine cc_put (pc := 27) dX6_init_27 flX6_21 (Or.inr ⟨rfl, _, _, rfl⟩) ha (Nat.le_of_ble_eq_true rfl) rfl ?_
  refine tt_aload_n (pc := 30) dX6_init_30 (.head _) ?_
  refine tt_iconst (pc := 31) dX6_init_31 ?_
  refine cc_put (pc := 32) dX6_init_32 flX6_25 (Or.inl rfl) ha (Nat.le_of_ble_eq_true rfl) rfl ?_
  refine tt_aload_n (pc := 35) dX6_init_35 (.head _) ?_
  refine tt_iconst (pc := 36) dX6_init_36 ?_
  refine cc_put (pc := 37) dX6_init_37 flX6_29 (Or.inl rfl) ha (Nat.le_of_ble_eq_true rfl) rfl ?_
  refine tt_aload_n (pc := 40) dX6_init_40 (.head _) ?_
  refine cn_X1 (pc := 41) dX6_init_41 klX6_32 ?_
  refine tt_dup (pc := 44) dX6_init_44 ?_
  refine tt_less (kc' := 0 + 729) (ks' := 0 + 6680) (by decide) (by decide) ?_
  refine tt_callIN (host := RX6) (kc := 729) (ks := 6680) (mc := 0) (ms := 0) (as := []) (np := 0) (pc := 45) dX6_init_45 kiX1 cwX1_init i1_de imX1_init (fun U hU => hU.1) rfl rfl (by decide) (by decide) (Nat.le_of_ble_eq_true rfl) (g_X1_init _) (fun rv h9 q9 => ?_)
  obtain ⟨rfl, rfl⟩ := q9
  rw [HH_len, HH_add]
  refine cc_put (pc := 48) dX6_init_48 flX6_35 (Or.inr ⟨rfl, _, _, rfl⟩) ha (Nat.le_of_ble_eq_true rfl) rfl ?_
  refine tw_iconst (pc := 51) dX6_init_51 (by decide) (fun z2 hz2 => ?_)
  refine tw_bipush (pc := 52) dX6_init_52 (by decide) (fun z8 hz8 => ?_)
  refine tt_iload_n (pc := 54) dX6_init_54 (.tail _ (.head _)) ?_
  refine tt_min (pc := 55) dX6_init_55 mlX6_39 ms_min mi_math mc_min (by decide) (Nat.le_of_ble_eq_true rfl) ?_
  refine tw_minv (fun m1 hm1 => ?_)
  refine tt_max (pc := 58) dX6_init_58 mlX6_45 ms_max mi_math mc_max (by decide) (Nat.le_of_ble_eq_true rfl) ?_
  refine tw_maxv (fun s hs => ?_)
  have es : s.toInt = cN x := by
    unfold cN
    split
    · omega
    · split <;> omega
  refine tt_istore_n (pc := 61) dX6_init_61 (by decide) ?_
  refine tt_loc [(0, .inr (some 0)), (1, .inl x), (2, .inl s)] (by simp [tSt]) ?_
  refine tt_aload_n (pc := 62) dX6_init_62 (.head _) ?_
  refine tt_iload_n (pc := 63) dX6_init_63 (.tail _ (.tail _ (.head _))) ?_
  refine tt_less (kc' := 34 * cN x + 456 + 1) (ks' := 477 * cN x + 2856 + cN x) (by omega) (by omega) ?_
  refine cc_newq (pc := 64) (t := 2) (len := cN x) dX6_init_64 rfl klX6_48 (fun U hU => hU.2.2.1) (i_nn (by omega)) (i_ix es) (by omega) ?_
  refine cc_put (pc := 67) dX6_init_67 flX6_50 (Or.inr ⟨rfl, _, _, rfl⟩) ha (Nat.le_of_ble_eq_true rfl) rfl ?_
  refine tw_iconst (pc := 70) dX6_init_70 (by decide) (fun z hz => ?_)
  refine tt_istore_n (pc := 71) dX6_init_71 (by decide) ?_
  show TT l D mX6_init Q0 _ _ _ (tSt _ 3 (.inl z)) [] _
  refine tt_loc [(0, .inr (some 0)), (1, .inl x), (2, .inl s), (3, .inl z)] (by simp [tSt]) ?_
  exact B72 (cN x) 0 s z _ _ (by omega) es (by omega) (bld0 hN2)
end TC5
