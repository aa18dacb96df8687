section TMS
variable {l : Launch} {D : va_G} {M : tM} {Q : Nat → tL → List tV → List tC → Prop} {kc ks pc : Nat} {loc : tL} {st : List tV} {h : List tC}
theorem tt_putS {idx ci k a : Nat} {ty : FieldType} {fs : List tV} {v : tV} (hd : decode M.2.1 pc = .ok (.putfield idx, 3)) (hf : tFd M.1 idx ci k ty false) (ha : a < h.length) (hl0 : k < fs.length) (hft : tfits ty v = true) (kk : TT l D M Q kc ks (pc + 3) loc st (h.set a (.inr (.inr (ci, fs.set k v))))) : TT l D M Q kc ks pc loc (v :: .inr (some a) :: st) (h.set a (.inr (.inr (ci, fs)))) := by
  refine tt_put hd hf (Or.inl rfl) (List.getElem?_set_self ha) hl0 hft ?_
  rw [List.set_set]
  exact kk
theorem fr_objset {P : Nat → Nat → Bool} {τ : List Nat} (hlen : h.length = τ.length) {a r ci : Nat} (ht : τ[a]? = some r) {fs fs' : List tV} (hf : h[a]? = some (.inr (.inr (ci, fs)))) (hp : ∀ j, P r j = true → fs'[j]? = fs[j]?) : Fr P τ h (h.set a (.inr (.inr (ci, fs')))) := by
  intro q r' hq
  by_cases e : a = q
  · subst e
    rw [ht] at hq
    cases hq
    refine ⟨fun ci' fs2 hf' => ?_, fun hn => absurd hf (hn ci fs)⟩
    rw [hf] at hf'
    cases hf'
    exact ⟨_, List.getElem?_set_self (by rw [hlen]; exact t_at ht), hp⟩
  · refine ⟨fun ci' fs' hf' => ⟨fs', by rw [List.getElem?_set_ne e]; exact hf', fun _ _ => rfl⟩, fun hn => ⟨fun ci' fs' => by rw [List.getElem?_set_ne e]; exact hn ci' fs', fun _ => by rw [List.getElem?_set_ne e]⟩⟩
theorem len6 {α : Type} {fs : List α} (h : fs.length = 6) : ∃ a b c d e f, fs = [a, b, c, d, e, f] := by
  match fs, h with
  | [a, b, c, d, e, f], _ => exact ⟨a, b, c, d, e, f, rfl⟩
theorem px1 (j : Nat) : PX 1 j = false := by simp [PX]
abbrev mX1_as : tM := (RX1, cX1_as, 5, 0, 0, false)
abbrev mX1_copy : tM := (RX1, cX1_copy, 2, 0, 0, false)
variable {N : Nat} {pk : Int} {τ : List Nat}
theorem g_X1_asG (hw : WT N pk τ h) (a0 : Nat) (ta0 : τ[a0]? = some 1) (a1 a2 a3 a4 : Int32) (k0 : 0 ≤ a1.toInt) (k4 : a1.toInt ≤ 4) (s0 : 0 ≤ a2.toInt) (s63 : a2.toInt ≤ 63) (s1 : a1.toInt ≠ 4 → a2.toInt ≤ 7) (s2 : a1.toInt = 4 → a2.toInt < pk) :
    TMc l D yX1_as cX1_as 5 (some (.object "LabelNet$Message")) 0 0 0 0 [.inr (some a0), .inl a1, .inl a2, .inl a3, .inl a4] h (fun rv h' => WT N pk τ h' ∧ Fr PX τ h h' ∧ ∃ q : Nat, rv = some (.inr (some q)) ∧ τ[q]? = some 1) := by
  refine tmc_of false rfl (by decide) (Nat.le_of_ble_eq_true rfl) ?_
  obtain ⟨fs, h1, h2, h3, h4⟩ := wt_obj hw ta0 (by decide)
  obtain ⟨f0, f1, f2, f3, f4, f5, rfl⟩ := len6 h2
  have hlt : a0 < h.length := t_at h1
  show TT l D mX1_as _ 0 0 0 [(0, .inr (some a0)), (1, .inl a1), (2, .inl a2), (3, .inl a3), (4, .inl a4)] [] h
  refine tt_aload_n (pc := 0) dX1_as_0 (.head _) ?_
  refine tt_iload_n (pc := 1) dX1_as_1 (.tail _ (.head _)) ?_
  refine tt_put (pc := 2) dX1_as_2 flX1_9 (Or.inl rfl) h1 (Nat.le_of_ble_eq_true rfl) rfl ?_
  refine tt_aload_n (pc := 5) dX1_as_5 (.head _) ?_
  refine tt_iload_n (pc := 6) dX1_as_6 (.tail _ (.tail _ (.head _))) ?_
  refine tt_putS (pc := 7) dX1_as_7 flX1_15 hlt (Nat.le_of_ble_eq_true rfl) rfl ?_
  refine tt_aload_n (pc := 10) dX1_as_10 (.head _) ?_
  refine tt_iload_n (pc := 11) dX1_as_11 (.tail _ (.tail _ (.tail _ (.head _)))) ?_
  refine tt_putS (pc := 12) dX1_as_12 flX1_18 hlt (Nat.le_of_ble_eq_true rfl) rfl ?_
  refine tt_aload_n (pc := 15) dX1_as_15 (.head _) ?_
  refine tt_iload (pc := 16) dX1_as_16 (.tail _ (.tail _ (.tail _ (.tail _ (.head _))))) ?_
  refine tt_putS (pc := 18) dX1_as_18 flX1_21 hlt (Nat.le_of_ble_eq_true rfl) rfl ?_
  refine tt_aload_n (pc := 21) dX1_as_21 (.head _) ?_
  refine tt_null (pc := 22) dX1_as_22 ?_
  refine tt_putS (pc := 23) dX1_as_23 flX1_24 hlt (Nat.le_of_ble_eq_true rfl) rfl ?_
  refine tt_aload_n (pc := 26) dX1_as_26 (.head _) ?_
  refine tt_stop (Or.inr (Or.inr ⟨some a0, _, dX1_as_27, rfl, rfl, ?_, ?_, a0, rfl, ta0⟩))
  · refine wt_set hw ta0 ⟨rfl, by decide, rfl, fun j ft v hj hv => ?_, fun _ x y hx hy => ?_⟩
    · have g3 : ∀ v5, f5 = v5 → vty τ booI v5 := fun v5 e => by
        obtain ⟨v, q1, q2⟩ := h3 5 _ rfl
        cases q1
        rw [← e]
        exact q2
      have b3 := i_ty a3
      have b4 := i_ty a4
      match j, hj, hv with
      | 0, hj, hv => cases hj; cases hv; exact ⟨k0, k4⟩
      | 1, hj, hv => cases hj; cases hv; exact ⟨s0, s63⟩
      | 2, hj, hv => cases hj; cases hv; exact b3
      | 3, hj, hv => cases hj; cases hv; exact b4
      | 4, hj, hv => cases hj; cases hv; rfl
      | 5, hj, hv => cases hj; cases hv; exact g3 _ rfl
      | n + 6, hj, _ => simp [fts] at hj
    · cases hx
      cases hy
      exact ⟨s1, s2⟩
  · exact fr_objset hw.1 ta0 h1 (fun j hj => by rw [px1] at hj; cases hj)
theorem g_X1_asA (hN2 : 2 ≤ N) (hN8 : N ≤ 8) (hp0 : 0 ≤ pk) (hp64 : pk ≤ 64) (hw : WT N pk τ h) (a0 : Nat) (ta0 : τ[a0]? = some 1) (a1 : Int32) (l1 : 0 ≤ a1.toInt) (u1 : a1.toInt ≤ 3) (a2 : Int32) (l2 : 0 ≤ a2.toInt) (u2 : a2.toInt ≤ 7) (a3 a4 : Int32) :
    TMc l D yX1_as cX1_as 5 (some (.object "LabelNet$Message")) 0 0 0 0 [.inr (some a0), .inl a1, .inl a2, .inl a3, .inl a4] h (fun rv h' => WT N pk τ h' ∧ Fr PX τ h h' ∧ ∃ q : Nat, rv = some (.inr (some q)) ∧ τ[q]? = some 1) :=
  g_X1_asG hw a0 ta0 a1 a2 a3 a4 l1 (by omega) l2 (by omega) (fun _ => u2) (fun _ => by omega)
theorem g_X1_asB (hN2 : 2 ≤ N) (hN8 : N ≤ 8) (hp0 : 0 ≤ pk) (hp64 : pk ≤ 64) (hw : WT N pk τ h) (a0 : Nat) (ta0 : τ[a0]? = some 1) (a1 : Int32) (l1 : 4 ≤ a1.toInt) (u1 : a1.toInt ≤ 4) (a2 : Int32) (l2 : 0 ≤ a2.toInt) (u2 : a2.toInt ≤ pk - 1) (a3 a4 : Int32) :
    TMc l D yX1_as cX1_as 5 (some (.object "LabelNet$Message")) 0 0 0 0 [.inr (some a0), .inl a1, .inl a2, .inl a3, .inl a4] h (fun rv h' => WT N pk τ h' ∧ Fr PX τ h h' ∧ ∃ q : Nat, rv = some (.inr (some q)) ∧ τ[q]? = some 1) :=
  g_X1_asG hw a0 ta0 a1 a2 a3 a4 (by omega) u1 l2 (by omega) (fun z => absurd (by omega) z) (fun _ => by omega)
/-- a message's fields -/
theorem wt_msg (hw : WT N pk τ h) {a : Nat} (ta : τ[a]? = some 1) : ∃ (x0 x1 x2 x3 x5 : Int32) (o : Option Nat), h[a]? = some (.inr (.inr (1, [.inl x0, .inl x1, .inl x2, .inl x3, .inr o, .inl x5]))) ∧ (0 ≤ x0.toInt ∧ x0.toInt ≤ 4) ∧ (0 ≤ x1.toInt ∧ x1.toInt ≤ 63) ∧ vty τ (.inr (5, true)) (.inr o) ∧ (0 ≤ x5.toInt ∧ x5.toInt ≤ 1) ∧ (x0.toInt ≠ 4 → x1.toInt ≤ 7) ∧ (x0.toInt = 4 → x1.toInt < pk) := by
  obtain ⟨fs, h1, h2, h3, h4⟩ := wt_obj hw ta (by decide)
  obtain ⟨f0, f1, f2, f3, f4, f5, rfl⟩ := len6 h2
  have e0 : vty τ (.inl (0, 4)) f0 := by obtain ⟨v, q1, q2⟩ := h3 0 _ rfl; cases q1; exact q2
  have e1 : vty τ (.inl (0, 63)) f1 := by obtain ⟨v, q1, q2⟩ := h3 1 _ rfl; cases q1; exact q2
  have e2 : vty τ anyI f2 := by obtain ⟨v, q1, q2⟩ := h3 2 _ rfl; cases q1; exact q2
  have e3 : vty τ anyI f3 := by obtain ⟨v, q1, q2⟩ := h3 3 _ rfl; cases q1; exact q2
  have e4 : vty τ (.inr (5, true)) f4 := by obtain ⟨v, q1, q2⟩ := h3 4 _ rfl; cases q1; exact q2
  have e5 : vty τ booI f5 := by obtain ⟨v, q1, q2⟩ := h3 5 _ rfl; cases q1; exact q2
  have ii : ∀ {lo hi : Int} {v : tV}, vty τ (.inl (lo, hi)) v → ∃ x, v = .inl x ∧ lo ≤ x.toInt ∧ x.toInt ≤ hi := by
    intro lo hi v hv
    match v, hv with
    | .inl x, hv => exact ⟨x, rfl, hv.1, hv.2⟩
    | .inr none, hv => exact hv.elim
    | .inr (some _), hv => exact hv.elim
  obtain ⟨x0, rfl, b0⟩ := ii e0
  obtain ⟨x1, rfl, b1⟩ := ii e1
  obtain ⟨x2, rfl, b2⟩ := ii e2
  obtain ⟨x3, rfl, b3⟩ := ii e3
  obtain ⟨x5, rfl, b5⟩ := ii e5
  match f4, e4, h1, h4 with
  | .inl x, e4, _, _ => exact e4.elim
  | .inr o, e4, h1, h4 =>
    have := h4 rfl x0 x1 rfl rfl
    exact ⟨x0, x1, x2, x3, x5, o, h1, b0, b1, e4, b5, this.1, this.2⟩
theorem g_X1_copy (hN2 : 2 ≤ N) (hN8 : N ≤ 8) (hp0 : 0 ≤ pk) (hp64 : pk ≤ 64) (hw : WT N pk τ h) (a0 : Nat) (ta0 : τ[a0]? = some 1) (a1 : Nat) (ta1 : τ[a1]? = some 1) :
    TMc l D yX1_copy cX1_copy 2 none 0 0 0 0 [.inr (some a0), .inr (some a1)] h (fun rv h' => WT N pk τ h' ∧ Fr PX τ h h' ∧ rv = none) := by
  refine tmc_of false rfl (by decide) (Nat.le_of_ble_eq_true rfl) ?_
  obtain ⟨u0, u1, u2, u3, u5, uo, hu, -⟩ := wt_msg hw ta0
  obtain ⟨x0, x1, x2, x3, x5, o, hx, b0, b1, b4, b5, c1, c2⟩ := wt_msg hw ta1
  have hlt : a0 < h.length := t_at hu
  have fin : WT N pk τ (h.set a0 (.inr (.inr (1, [.inl x0, .inl x1, .inl x2, .inl x3, .inr o, .inl (Int32.ofInt 0)])))) := by
    refine wt_set hw ta0 ⟨rfl, by decide, rfl, fun j ft v hj hv => ?_, fun _ x y hx hy => ?_⟩
    · match j, hj, hv with
      | 0, hj, hv => cases hj; cases hv; exact b0
      | 1, hj, hv => cases hj; cases hv; exact b1
      | 2, hj, hv => cases hj; cases hv; exact i_ty x2
      | 3, hj, hv => cases hj; cases hv; exact i_ty x3
      | 4, hj, hv => cases hj; cases hv; exact b4
      | 5, hj, hv => cases hj; cases hv; exact ⟨by decide, by decide⟩
      | n + 6, hj, _ => simp [fts] at hj
    · cases hx
      cases hy
      exact ⟨c1, c2⟩
  have ffr : Fr PX τ h (h.set a0 (.inr (.inr (1, [.inl x0, .inl x1, .inl x2, .inl x3, .inr o, .inl (Int32.ofInt 0)])))) := fr_objset hw.1 ta0 hu (fun j hj => by rw [px1] at hj; cases hj)
  show TT l D mX1_copy _ 0 0 0 [(0, .inr (some a0)), (1, .inr (some a1))] [] h
  have rd : ∀ fs : List tV, a0 ≠ a1 → (h.set a0 (.inr (.inr (1, fs))))[a1]? = some (.inr (.inr (1, [.inl x0, .inl x1, .inl x2, .inl x3, .inr o, .inl x5]))) := fun fs e => by rw [List.getElem?_set_ne e]; exact hx
  have key : ∀ (r1 : ∀ fs : List tV, fs = [.inl x0, .inl u1, .inl u2, .inl u3, .inr uo, .inl u5] → ∃ gs, (h.set a0 (.inr (.inr (1, fs))))[a1]? = some (.inr (.inr (1, gs))) ∧ gs[1]? = some (.inl x1)) (r2 : ∃ gs, (h.set a0 (.inr (.inr (1, [.inl x0, .inl x1, .inl u2, .inl u3, .inr uo, .inl u5]))))[a1]? = some (.inr (.inr (1, gs))) ∧ gs[2]? = some (.inl x2)) (r3 : ∃ gs, (h.set a0 (.inr (.inr (1, [.inl x0, .inl x1, .inl x2, .inl u3, .inr uo, .inl u5]))))[a1]? = some (.inr (.inr (1, gs))) ∧ gs[3]? = some (.inl x3)) (r4 : ∃ gs, (h.set a0 (.inr (.inr (1, [.inl x0, .inl x1, .inl x2, .inl x3, .inr uo, .inl u5]))))[a1]? = some (.inr (.inr (1, gs))) ∧ gs[4]? = some (.inr o)), TT l D mX1_copy (tRt cX1_copy none (fun rv h' => WT N pk τ h' ∧ Fr PX τ h h' ∧ rv = none)) 0 0 0 [(0, .inr (some a0)), (1, .inr (some a1))] [] h := by
    intro r1 r2 r3 r4
    obtain ⟨g1, p1, q1⟩ := r1 _ rfl
    obtain ⟨g2, p2, q2⟩ := r2
    obtain ⟨g3, p3, q3⟩ := r3
    obtain ⟨g4, p4, q4⟩ := r4
    refine tt_aload_n (pc := 0) dX1_copy_0 (.head _) ?_
    refine tt_aload_n (pc := 1) dX1_copy_1 (.tail _ (.head _)) ?_
    refine tt_get (pc := 2) dX1_copy_2 flX1_9 hx rfl ?_
    refine tt_put (pc := 5) dX1_copy_5 flX1_9 (Or.inl rfl) hu (Nat.le_of_ble_eq_true rfl) rfl ?_
    refine tt_aload_n (pc := 8) dX1_copy_8 (.head _) ?_
    refine tt_aload_n (pc := 9) dX1_copy_9 (.tail _ (.head _)) ?_
    refine tt_get (pc := 10) dX1_copy_10 flX1_15 p1 q1 ?_
    refine tt_putS (pc := 13) dX1_copy_13 flX1_15 hlt (Nat.le_of_ble_eq_true rfl) rfl ?_
    refine tt_aload_n (pc := 16) dX1_copy_16 (.head _) ?_
    refine tt_aload_n (pc := 17) dX1_copy_17 (.tail _ (.head _)) ?_
    refine tt_get (pc := 18) dX1_copy_18 flX1_18 p2 q2 ?_
    refine tt_putS (pc := 21) dX1_copy_21 flX1_18 hlt (Nat.le_of_ble_eq_true rfl) rfl ?_
    refine tt_aload_n (pc := 24) dX1_copy_24 (.head _) ?_
    refine tt_aload_n (pc := 25) dX1_copy_25 (.tail _ (.head _)) ?_
    refine tt_get (pc := 26) dX1_copy_26 flX1_21 p3 q3 ?_
    refine tt_putS (pc := 29) dX1_copy_29 flX1_21 hlt (Nat.le_of_ble_eq_true rfl) rfl ?_
    refine tt_aload_n (pc := 32) dX1_copy_32 (.head _) ?_
    refine tt_aload_n (pc := 33) dX1_copy_33 (.tail _ (.head _)) ?_
    refine tt_get (pc := 34) dX1_copy_34 flX1_24 p4 q4 ?_
    refine tt_putS (pc := 37) dX1_copy_37 flX1_24 hlt (Nat.le_of_ble_eq_true rfl) rfl ?_
    refine tt_aload_n (pc := 40) dX1_copy_40 (.head _) ?_
    refine tt_iconst (pc := 41) dX1_copy_41 ?_
    refine tt_putS (pc := 42) dX1_copy_42 flX1_40 hlt (Nat.le_of_ble_eq_true rfl) rfl ?_
    exact tt_stop (Or.inl ⟨dX1_copy_45, rfl, rfl, fin, ffr, rfl⟩)
  by_cases e : a0 = a1
  · subst e
    rw [hu] at hx
    cases hx
    exact key (fun fs efs => ⟨fs, List.getElem?_set_self hlt, by rw [efs]; rfl⟩) ⟨_, List.getElem?_set_self hlt, rfl⟩ ⟨_, List.getElem?_set_self hlt, rfl⟩ ⟨_, List.getElem?_set_self hlt, rfl⟩
  · exact key (fun fs _ => ⟨_, rd fs e, rfl⟩) ⟨_, rd _ e, rfl⟩ ⟨_, rd _ e, rfl⟩ ⟨_, rd _ e, rfl⟩
end TMS
