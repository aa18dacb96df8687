abbrev mX7_thrown : tM := (RX7, cX7_thrown, 1, 0, 0, false)
set_option maxHeartbeats 4000000 in
theorem g_X7_thrown {l : Launch} {D : va_G} {N : Nat} {pk : Int} {τ : List Nat} (hN2 : 2 ≤ N) (hN8 : N ≤ 8) (hp0 : 0 ≤ pk) (hp64 : pk ≤ 64) {h : List tC} (hw : WT N pk τ h) (a0 : Nat) (ta0 : τ[a0]? = some 7) : TMc l D yX7_thrown cX7_thrown 1 (some .int) 0 0 0 0 [.inr (some a0)] h (fun rv h' => h = h' ∧ ∃ x : Int32, rv = some (.inl x) ∧ -2147483648 ≤ x.toInt ∧ x.toInt ≤ 2147483647) := by
  refine tmc_of false rfl (by decide) (Nat.le_of_ble_eq_true rfl) ?_
  suffices HQ : ∀ Q0, Q0 = tRt cX7_thrown (some .int) (fun rv h' => h = h' ∧ ∃ x : Int32, rv = some (.inl x) ∧ -2147483648 ≤ x.toInt ∧ x.toInt ≤ 2147483647) → TT l D mX7_thrown Q0 0 0 0 [(0, .inr (some a0))] [] h from HQ _ rfl
  intro Q0 hQ
  refine tt_aload_n (pc := 0) dX7_thrown_0 (.head _) ?_
  refine tw_geti (pc := 1) dX7_thrown_1 flX7_96 hw ta0 (by decide) rfl (fun f3 x4 ef3 gf3 lx4 ux4 => ?_)
  refine tt_stop ?_
  rw [hQ]
  exact Or.inr (Or.inl ⟨x4, dX7_thrown_4, rfl, Or.inl rfl, rfl, x4, rfl, by omega, by omega⟩)
abbrev mX7_in : tM := (RX7, cX7_in, 2, 0, 0, false)
set_option maxHeartbeats 4000000 in
theorem g_X7_in {l : Launch} {D : va_G} {N : Nat} {pk : Int} {τ : List Nat} (hN2 : 2 ≤ N) (hN8 : N ≤ 8) (hp0 : 0 ≤ pk) (hp64 : pk ≤ 64) {h : List tC} (hw : WT N pk τ h) (a0 : Int32) (a1 : Int32) : TMc l D yX7_in cX7_in 2 (some .boolean) 0 0 0 0 [.inl a0, .inl a1] h (fun rv h' => h = h' ∧ ∃ x : Int32, rv = some (.inl x) ∧ 0 ≤ x.toInt ∧ x.toInt ≤ 1 ∧ (x.toInt ≠ 0 → 0 ≤ a0.toInt ∧ a0.toInt ≤ a1.toInt - 1) ∧ (x.toInt = 0 → a0.toInt < 0 ∨ a1.toInt - 1 < a0.toInt)) := by
  refine tmc_of false rfl (by decide) (Nat.le_of_ble_eq_true rfl) ?_
  suffices HQ : ∀ Q0, Q0 = tRt cX7_in (some .boolean) (fun rv h' => h = h' ∧ ∃ x : Int32, rv = some (.inl x) ∧ 0 ≤ x.toInt ∧ x.toInt ≤ 1 ∧ (x.toInt ≠ 0 → 0 ≤ a0.toInt ∧ a0.toInt ≤ a1.toInt - 1) ∧ (x.toInt = 0 → a0.toInt < 0 ∨ a1.toInt - 1 < a0.toInt)) → TT l D mX7_in Q0 0 0 0 [(0, .inl a0), (1, .inl a1)] [] h from HQ _ rfl
  intro Q0 hQ
  have ba0 := i_ty a0
  have ba1 := i_ty a1
  refine tt_iload_n (pc := 0) dX7_in_0 (.head _) ?_
  refine tw_if (tgt := 13) (pc := 1) dX7_in_1 (by decide) (fun (c6 : a0.toInt < 0) => ?_) (fun (c6 : ¬ (a0.toInt < 0)) => ?_)
  · skip
    refine tw_iconst (pc := 13) dX7_in_13 (by decide) (fun x7 ex7 => ?_)
    refine tt_stop ?_
    rw [hQ]
    exact Or.inr (Or.inl ⟨x7, dX7_in_14, rfl, Or.inr ⟨rfl, bool01 (by omega) (by omega)⟩, rfl, x7, rfl, by omega, by omega, (fun zz => ⟨by omega, by omega⟩), (fun zz => by omega)⟩)
  · skip
    refine tt_iload_n (pc := 4) dX7_in_4 (.head _) ?_
    refine tt_iload_n (pc := 5) dX7_in_5 (.tail _ (.head _)) ?_
    refine tw_icmp (tgt := 13) (pc := 6) dX7_in_6 (by decide) (fun (c8 : a1.toInt ≤ a0.toInt) => ?_) (fun (c8 : ¬ (a1.toInt ≤ a0.toInt)) => ?_)
    · skip
      refine tw_iconst (pc := 13) dX7_in_13 (by decide) (fun x9 ex9 => ?_)
      refine tt_stop ?_
      rw [hQ]
      exact Or.inr (Or.inl ⟨x9, dX7_in_14, rfl, Or.inr ⟨rfl, bool01 (by omega) (by omega)⟩, rfl, x9, rfl, by omega, by omega, (fun zz => ⟨by omega, by omega⟩), (fun zz => by omega)⟩)
    · skip
      refine tw_iconst (pc := 9) dX7_in_9 (by decide) (fun x10 ex10 => ?_)
      refine tt_goto (tgt := 14) (pc := 10) dX7_in_10 (by decide) ?_
      refine tt_stop ?_
      rw [hQ]
      exact Or.inr (Or.inl ⟨x10, dX7_in_14, rfl, Or.inr ⟨rfl, bool01 (by omega) (by omega)⟩, rfl, x10, rfl, by omega, by omega, (fun zz => ⟨by omega, by omega⟩), (fun zz => by omega)⟩)
abbrev mX7_isEnd : tM := (RX7, cX7_isEnd, 2, 1, 21, false)
set_option maxHeartbeats 4000000 in
theorem g_X7_isEnd {l : Launch} {D : va_G} {N : Nat} {pk : Int} {τ : List Nat} (hN2 : 2 ≤ N) (hN8 : N ≤ 8) (hp0 : 0 ≤ pk) (hp64 : pk ≤ 64) {h : List tC} (hw : WT N pk τ h) (a0 : Int32) (a1 : Int32) : TMc l D yX7_isEnd cX7_isEnd 2 (some .boolean) 1 21 0 0 [.inl a0, .inl a1] h (fun rv h' => h = h' ∧ ∃ x : Int32, rv = some (.inl x) ∧ 0 ≤ x.toInt ∧ x.toInt ≤ 1 ∧ (x.toInt ≠ 0 → 0 ≤ a0.toInt ∧ a0.toInt ≤ 11 ∧ 0 ≤ a1.toInt ∧ a1.toInt ≤ 1) ∧ (x.toInt = 0 → a0.toInt < 0 ∨ 11 < a0.toInt ∨ a1.toInt < 0 ∨ 1 < a1.toInt)) := by
  refine tmc_of false rfl (by decide) (Nat.le_of_ble_eq_true rfl) ?_
  suffices HQ : ∀ Q0, Q0 = tRt cX7_isEnd (some .boolean) (fun rv h' => h = h' ∧ ∃ x : Int32, rv = some (.inl x) ∧ 0 ≤ x.toInt ∧ x.toInt ≤ 1 ∧ (x.toInt ≠ 0 → 0 ≤ a0.toInt ∧ a0.toInt ≤ 11 ∧ 0 ≤ a1.toInt ∧ a1.toInt ≤ 1) ∧ (x.toInt = 0 → a0.toInt < 0 ∨ 11 < a0.toInt ∨ a1.toInt < 0 ∨ 1 < a1.toInt)) → TT l D mX7_isEnd Q0 0 0 0 [(0, .inl a0), (1, .inl a1)] [] h from HQ _ rfl
  intro Q0 hQ
  have ba0 := i_ty a0
  have ba1 := i_ty a1
  refine tt_iload_n (pc := 0) dX7_isEnd_0 (.head _) ?_
  refine tw_bipush (pc := 1) dX7_isEnd_1 (by decide) (fun x16 ex16 => ?_)
  refine tt_callS (kc := 0) (ks := 0) (mc := 0) (ms := 0) (as := [.inl a0, .inl x16]) (st := []) (pc := 3) dX7_isEnd_3 lkX7_99 smX7_in rfl (by decide) (by decide) (Nat.le_of_ble_eq_true rfl) (g_X7_in hN2 hN8 hp0 hp64 hw a0 x16) (fun rv h17 qh17 => ?_)
  obtain ⟨rfl, x18, rfl, lx18, ux18, Gx18, Zx18⟩ := qh17
  show TT _ _ _ _ _ _ _ _ [.inl x18] _
  refine tw_if (tgt := 21) (pc := 6) dX7_isEnd_6 (by decide) (fun (c21 : x18.toInt = 0) => ?_) (fun (c21 : ¬ (x18.toInt = 0)) => ?_)
  · skip
    refine tw_iconst (pc := 21) dX7_isEnd_21 (by decide) (fun x22 ex22 => ?_)
    refine tt_stop ?_
    rw [hQ]
    exact Or.inr (Or.inl ⟨x22, dX7_isEnd_22, rfl, Or.inr ⟨rfl, bool01 (by omega) (by omega)⟩, rfl, x22, rfl, by omega, by omega, (fun zz => ⟨by omega, by omega, by omega, by omega⟩), (fun zz => by omega)⟩)
  · skip
    obtain ⟨b19, b20⟩ := Gx18 (by omega)
    refine tt_iload_n (pc := 9) dX7_isEnd_9 (.tail _ (.head _)) ?_
    refine tw_iconst (pc := 10) dX7_isEnd_10 (by decide) (fun x23 ex23 => ?_)
    refine tt_callS (kc := 0) (ks := 0) (mc := 0) (ms := 0) (as := [.inl a1, .inl x23]) (st := []) (pc := 11) dX7_isEnd_11 lkX7_99 smX7_in rfl (by decide) (by decide) (Nat.le_of_ble_eq_true rfl) (g_X7_in hN2 hN8 hp0 hp64 hw a1 x23) (fun rv h24 qh24 => ?_)
    obtain ⟨rfl, x25, rfl, lx25, ux25, Gx25, Zx25⟩ := qh24
    show TT _ _ _ _ _ _ _ _ [.inl x25] _
    refine tw_if (tgt := 21) (pc := 14) dX7_isEnd_14 (by decide) (fun (c28 : x25.toInt = 0) => ?_) (fun (c28 : ¬ (x25.toInt = 0)) => ?_)
    · skip
      refine tw_iconst (pc := 21) dX7_isEnd_21 (by decide) (fun x29 ex29 => ?_)
      refine tt_stop ?_
      rw [hQ]
      exact Or.inr (Or.inl ⟨x29, dX7_isEnd_22, rfl, Or.inr ⟨rfl, bool01 (by omega) (by omega)⟩, rfl, x29, rfl, by omega, by omega, (fun zz => ⟨by omega, by omega, by omega, by omega⟩), (fun zz => by omega)⟩)
    · skip
      obtain ⟨b26, b27⟩ := Gx25 (by omega)
      refine tw_iconst (pc := 17) dX7_isEnd_17 (by decide) (fun x30 ex30 => ?_)
      refine tt_goto (tgt := 22) (pc := 18) dX7_isEnd_18 (by decide) ?_
      refine tt_stop ?_
      rw [hQ]
      exact Or.inr (Or.inl ⟨x30, dX7_isEnd_22, rfl, Or.inr ⟨rfl, bool01 (by omega) (by omega)⟩, rfl, x30, rfl, by omega, by omega, (fun zz => ⟨by omega, by omega, by omega, by omega⟩), (fun zz => by omega)⟩)
abbrev mX7_goes : tM := (RX7, cX7_goes, 3, 0, 0, false)
set_option maxHeartbeats 4000000 in
theorem g_X7_goes {l : Launch} {D : va_G} {N : Nat} {pk : Int} {τ : List Nat} (hN2 : 2 ≤ N) (hN8 : N ≤ 8) (hp0 : 0 ≤ pk) (hp64 : pk ≤ 64) {h : List tC} (hw : WT N pk τ h) (a0 : Nat) (ta0 : τ[a0]? = some 7) (a1 : Int32) (la1 : 0 ≤ a1.toInt) (ua1 : a1.toInt ≤ 1) (a2 : Int32) (la2 : 0 ≤ a2.toInt) (ua2 : a2.toInt ≤ 1) : TMc l D yX7_goes cX7_goes 3 (some .boolean) 0 0 0 0 [.inr (some a0), .inl a1, .inl a2] h (fun rv h' => WT N pk τ h' ∧ Fr PMko τ h h' ∧ ∃ x : Int32, rv = some (.inl x) ∧ 0 ≤ x.toInt ∧ x.toInt ≤ 1 ∧ (x.toInt ≠ 0 → 1 ≤ a1.toInt ∧ a1.toInt ≤ 1 ∧ 1 ≤ a2.toInt ∧ a2.toInt ≤ 1)) := by
  refine tmc_of false rfl (by decide) (Nat.le_of_ble_eq_true rfl) ?_
  suffices HQ : ∀ Q0, Q0 = tRt cX7_goes (some .boolean) (fun rv h' => WT N pk τ h' ∧ Fr PMko τ h h' ∧ ∃ x : Int32, rv = some (.inl x) ∧ 0 ≤ x.toInt ∧ x.toInt ≤ 1 ∧ (x.toInt ≠ 0 → 1 ≤ a1.toInt ∧ a1.toInt ≤ 1 ∧ 1 ≤ a2.toInt ∧ a2.toInt ≤ 1)) → TT l D mX7_goes Q0 0 0 0 [(0, .inr (some a0)), (1, .inl a1), (2, .inl a2)] [] h from HQ _ rfl
  intro Q0 hQ
  have hf : Fr PMko τ h h := Fr.rf
  refine tt_aload_n (pc := 0) dX7_goes_0 (.head _) ?_
  refine tt_iload_n (pc := 1) dX7_goes_1 (.tail _ (.head _)) ?_
  refine tw_if (tgt := 9) (pc := 2) dX7_goes_2 (by decide) (fun (c18 : a1.toInt ≠ 0) => ?_) (fun (c18 : ¬ (a1.toInt ≠ 0)) => ?_)
  · skip
    refine tt_iload_n (pc := 9) dX7_goes_9 (.tail _ (.tail _ (.head _))) ?_
    refine tw_if (tgt := 17) (pc := 10) dX7_goes_10 (by decide) (fun (c19 : a2.toInt ≠ 0) => ?_) (fun (c19 : ¬ (a2.toInt ≠ 0)) => ?_)
    · skip
      refine tw_iconst (pc := 17) dX7_goes_17 (by decide) (fun x20 ex20 => ?_)
      refine tw_put (P := PMko) (pc := 18) dX7_goes_18 flX7_96 hw ta0 (by decide) rfl ⟨by omega, by omega⟩ rfl (by decide) (by decide) (fun f21 h22 eh22 gh22 kh22 wh22 fh22 => ?_)
      have hfh22 := hf.tr fh22
      refine tt_aload_n (pc := 21) dX7_goes_21 (.head _) ?_
      refine tt_get (pc := 22) dX7_goes_22 flX7_96 gh22 (List.getElem?_set_self kh22) ?_
      refine tw_if (tgt := 32) (pc := 25) dX7_goes_25 (by decide) (fun (c23 : x20.toInt ≠ 0) => ?_) (fun (c23 : ¬ (x20.toInt ≠ 0)) => ?_)
      · skip
        exfalso
        omega
      · skip
        refine tw_iconst (pc := 28) dX7_goes_28 (by decide) (fun x24 ex24 => ?_)
        refine tt_goto (tgt := 33) (pc := 29) dX7_goes_29 (by decide) ?_
        refine tt_stop ?_
        rw [hQ]
        exact Or.inr (Or.inl ⟨x24, dX7_goes_33, rfl, Or.inr ⟨rfl, bool01 (by omega) (by omega)⟩, wh22, hfh22, x24, rfl, by omega, by omega, (fun zz => ⟨by omega, by omega, by omega, by omega⟩)⟩)
    · skip
      refine tw_iconst (pc := 13) dX7_goes_13 (by decide) (fun x25 ex25 => ?_)
      refine tt_goto (tgt := 18) (pc := 14) dX7_goes_14 (by decide) ?_
      refine tw_put (P := PMko) (pc := 18) dX7_goes_18 flX7_96 hw ta0 (by decide) rfl ⟨by omega, by omega⟩ rfl (by decide) (by decide) (fun f26 h27 eh27 gh27 kh27 wh27 fh27 => ?_)
      have hfh27 := hf.tr fh27
      refine tt_aload_n (pc := 21) dX7_goes_21 (.head _) ?_
      refine tt_get (pc := 22) dX7_goes_22 flX7_96 gh27 (List.getElem?_set_self kh27) ?_
      refine tw_if (tgt := 32) (pc := 25) dX7_goes_25 (by decide) (fun (c28 : x25.toInt ≠ 0) => ?_) (fun (c28 : ¬ (x25.toInt ≠ 0)) => ?_)
      · skip
        refine tw_iconst (pc := 32) dX7_goes_32 (by decide) (fun x29 ex29 => ?_)
        refine tt_stop ?_
        rw [hQ]
        exact Or.inr (Or.inl ⟨x29, dX7_goes_33, rfl, Or.inr ⟨rfl, bool01 (by omega) (by omega)⟩, wh27, hfh27, x29, rfl, by omega, by omega, (fun zz => ⟨by omega, by omega, by omega, by omega⟩)⟩)
      · skip
        exfalso
        omega
  · skip
    refine tw_iconst (pc := 5) dX7_goes_5 (by decide) (fun x30 ex30 => ?_)
    refine tt_goto (tgt := 18) (pc := 6) dX7_goes_6 (by decide) ?_
    refine tw_put (P := PMko) (pc := 18) dX7_goes_18 flX7_96 hw ta0 (by decide) rfl ⟨by omega, by omega⟩ rfl (by decide) (by decide) (fun f31 h32 eh32 gh32 kh32 wh32 fh32 => ?_)
    have hfh32 := hf.tr fh32
    refine tt_aload_n (pc := 21) dX7_goes_21 (.head _) ?_
    refine tt_get (pc := 22) dX7_goes_22 flX7_96 gh32 (List.getElem?_set_self kh32) ?_
    refine tw_if (tgt := 32) (pc := 25) dX7_goes_25 (by decide) (fun (c33 : x30.toInt ≠ 0) => ?_) (fun (c33 : ¬ (x30.toInt ≠ 0)) => ?_)
    · skip
      refine tw_iconst (pc := 32) dX7_goes_32 (by decide) (fun x34 ex34 => ?_)
      refine tt_stop ?_
      rw [hQ]
      exact Or.inr (Or.inl ⟨x34, dX7_goes_33, rfl, Or.inr ⟨rfl, bool01 (by omega) (by omega)⟩, wh32, hfh32, x34, rfl, by omega, by omega, (fun zz => ⟨by omega, by omega, by omega, by omega⟩)⟩)
    · skip
      exfalso
      omega
abbrev mX7_isRouter : tM := (RX7, cX7_isRouter, 2, 1, 21, false)
set_option maxHeartbeats 4000000 in
theorem g_X7_isRouter {l : Launch} {D : va_G} {N : Nat} {pk : Int} {τ : List Nat} (hN2 : 2 ≤ N) (hN8 : N ≤ 8) (hp0 : 0 ≤ pk) (hp64 : pk ≤ 64) {h : List tC} (hw : WT N pk τ h) (a0 : Nat) (ta0 : τ[a0]? = some 7) (a1 : Int32) : TMc l D yX7_isRouter cX7_isRouter 2 (some .boolean) 1 21 0 0 [.inr (some a0), .inl a1] h (fun rv h' => h = h' ∧ ∃ x : Int32, rv = some (.inl x) ∧ 0 ≤ x.toInt ∧ x.toInt ≤ 1 ∧ (x.toInt ≠ 0 → 0 ≤ a1.toInt ∧ a1.toInt ≤ (N : Int) - 1) ∧ (x.toInt = 0 → a1.toInt < 0 ∨ (N : Int) - 1 < a1.toInt)) := by
  refine tmc_of false rfl (by decide) (Nat.le_of_ble_eq_true rfl) ?_
  suffices HQ : ∀ Q0, Q0 = tRt cX7_isRouter (some .boolean) (fun rv h' => h = h' ∧ ∃ x : Int32, rv = some (.inl x) ∧ 0 ≤ x.toInt ∧ x.toInt ≤ 1 ∧ (x.toInt ≠ 0 → 0 ≤ a1.toInt ∧ a1.toInt ≤ (N : Int) - 1) ∧ (x.toInt = 0 → a1.toInt < 0 ∨ (N : Int) - 1 < a1.toInt)) → TT l D mX7_isRouter Q0 0 0 0 [(0, .inr (some a0)), (1, .inl a1)] [] h from HQ _ rfl
  intro Q0 hQ
  have ba1 := i_ty a1
  refine tt_iload_n (pc := 0) dX7_isRouter_0 (.tail _ (.head _)) ?_
  refine tt_aload_n (pc := 1) dX7_isRouter_1 (.head _) ?_
  refine tw_geti (pc := 2) dX7_isRouter_2 flX7_92 hw ta0 (by decide) rfl (fun f7 x8 ef7 gf7 lx8 ux8 => ?_)
  refine tt_callS (kc := 0) (ks := 0) (mc := 0) (ms := 0) (as := [.inl a1, .inl x8]) (st := []) (pc := 5) dX7_isRouter_5 lkX7_99 smX7_in rfl (by decide) (by decide) (Nat.le_of_ble_eq_true rfl) (g_X7_in hN2 hN8 hp0 hp64 hw a1 x8) (fun rv h9 qh9 => ?_)
  obtain ⟨rfl, x10, rfl, lx10, ux10, Gx10, Zx10⟩ := qh9
  show TT _ _ _ _ _ _ _ _ [.inl x10] _
  refine tt_stop ?_
  rw [hQ]
  exact Or.inr (Or.inl ⟨x10, dX7_isRouter_8, rfl, Or.inr ⟨rfl, bool01 (by omega) (by omega)⟩, rfl, x10, rfl, by omega, by omega, (fun zz => ⟨by omega, by omega⟩), (fun zz => by omega)⟩)
abbrev mX7_isUp : tM := (RX7, cX7_isUp, 3, 0, 0, false)
set_option maxHeartbeats 4000000 in
theorem g_X7_isUp {l : Launch} {D : va_G} {N : Nat} {pk : Int} {τ : List Nat} (hN2 : 2 ≤ N) (hN8 : N ≤ 8) (hp0 : 0 ≤ pk) (hp64 : pk ≤ 64) {h : List tC} (hw : WT N pk τ h) (a0 : Nat) (ta0 : τ[a0]? = some 7) (a1 : Int32) (a2 : Int32) (la2 : 0 ≤ a2.toInt) (ua2 : a2.toInt ≤ 11) : TMc l D yX7_isUp cX7_isUp 3 (some .boolean) 0 0 0 0 [.inr (some a0), .inl a1, .inl a2] h (fun rv h' => h = h' ∧ ∃ x : Int32, rv = some (.inl x) ∧ 0 ≤ x.toInt ∧ x.toInt ≤ 1) := by
  refine tmc_of false rfl (by decide) (Nat.le_of_ble_eq_true rfl) ?_
  suffices HQ : ∀ Q0, Q0 = tRt cX7_isUp (some .boolean) (fun rv h' => h = h' ∧ ∃ x : Int32, rv = some (.inl x) ∧ 0 ≤ x.toInt ∧ x.toInt ≤ 1) → TT l D mX7_isUp Q0 0 0 0 [(0, .inr (some a0)), (1, .inl a1), (2, .inl a2)] [] h from HQ _ rfl
  intro Q0 hQ
  have B33 : TT l D mX7_isUp Q0 0 0 33 [] [] h := by
    refine tw_iconst (pc := 33) dX7_isUp_33 (by decide) (fun x18 ex18 => ?_)
    refine tt_stop ?_
    rw [hQ]
    exact Or.inr (Or.inl ⟨x18, dX7_isUp_34, rfl, Or.inr ⟨rfl, bool01 (by omega) (by omega)⟩, rfl, x18, rfl, by omega, by omega⟩)
  have B29 : TT l D mX7_isUp Q0 0 0 29 [] [] h := by
    refine tw_iconst (pc := 29) dX7_isUp_29 (by decide) (fun x19 ex19 => ?_)
    refine tt_goto (tgt := 34) (pc := 30) dX7_isUp_30 (by decide) ?_
    refine tt_stop ?_
    rw [hQ]
    exact Or.inr (Or.inl ⟨x19, dX7_isUp_34, rfl, Or.inr ⟨rfl, bool01 (by omega) (by omega)⟩, rfl, x19, rfl, by omega, by omega⟩)
  have ba1 := i_ty a1
  refine tt_aload_n (pc := 0) dX7_isUp_0 (.head _) ?_
  refine tw_getr (pc := 1) dX7_isUp_1 flX7_13 hw ta0 (by decide) rfl (fun f20 q21 ef20 gf20 tq21 => ?_)
  refine tt_iload_n (pc := 4) dX7_isUp_4 (.tail _ (.tail _ (.head _))) ?_
  refine tw_zld (pc := 5) dX7_isUp_5 hw tq21 rfl (by omega) (by omega) (fun f23 x22 ef23 gf23 lx22 ux22 => ?_)
  refine tw_if (tgt := 33) (pc := 6) dX7_isUp_6 (by decide) (fun (c24 : x22.toInt = 0) => ?_) (fun (c24 : ¬ (x22.toInt = 0)) => ?_)
  · skip
    refine tt_loc [] (fun _ z => absurd z List.not_mem_nil) ?_
    exact B33 
  · skip
    refine tt_aload_n (pc := 9) dX7_isUp_9 (.head _) ?_
    refine tw_getr (pc := 10) dX7_isUp_10 flX7_16 hw ta0 (by decide) rfl (fun f25 q26 ef25 gf25 tq26 => ?_)
    refine tt_iload_n (pc := 13) dX7_isUp_13 (.tail _ (.tail _ (.head _))) ?_
    refine tw_ild (pc := 14) dX7_isUp_14 hw tq26 rfl (by omega) (by omega) (fun f28 x27 ef28 gf28 lx27 ux27 => ?_)
    refine tt_iload_n (pc := 15) dX7_isUp_15 (.tail _ (.head _)) ?_
    refine tw_icmp (tgt := 29) (pc := 16) dX7_isUp_16 (by decide) (fun (c29 : x27.toInt = a1.toInt) => ?_) (fun (c29 : ¬ (x27.toInt = a1.toInt)) => ?_)
    · skip
      refine tt_loc [] (fun _ z => absurd z List.not_mem_nil) ?_
      exact B29 
    · skip
      refine tt_aload_n (pc := 19) dX7_isUp_19 (.head _) ?_
      refine tw_getr (pc := 20) dX7_isUp_20 flX7_20 hw ta0 (by decide) rfl (fun f30 q31 ef30 gf30 tq31 => ?_)
      refine tt_iload_n (pc := 23) dX7_isUp_23 (.tail _ (.tail _ (.head _))) ?_
      refine tw_ild (pc := 24) dX7_isUp_24 hw tq31 rfl (by omega) (by omega) (fun f33 x32 ef33 gf33 lx32 ux32 => ?_)
      refine tt_iload_n (pc := 25) dX7_isUp_25 (.tail _ (.head _)) ?_
      refine tw_icmp (tgt := 33) (pc := 26) dX7_isUp_26 (by decide) (fun (c34 : x32.toInt ≠ a1.toInt) => ?_) (fun (c34 : ¬ (x32.toInt ≠ a1.toInt)) => ?_)
      · skip
        refine tt_loc [] (fun _ z => absurd z List.not_mem_nil) ?_
        exact B33 
      · skip
        refine tt_loc [] (fun _ z => absurd z List.not_mem_nil) ?_
        exact B29 
abbrev mX7_other : tM := (RX7, cX7_other, 3, 0, 0, false)
set_option maxHeartbeats 4000000 in
theorem g_X7_other {l : Launch} {D : va_G} {N : Nat} {pk : Int} {τ : List Nat} (hN2 : 2 ≤ N) (hN8 : N ≤ 8) (hp0 : 0 ≤ pk) (hp64 : pk ≤ 64) {h : List tC} (hw : WT N pk τ h) (a0 : Nat) (ta0 : τ[a0]? = some 7) (a1 : Int32) (a2 : Int32) (la2 : 0 ≤ a2.toInt) (ua2 : a2.toInt ≤ 11) : TMc l D yX7_other cX7_other 3 (some .int) 0 0 0 0 [.inr (some a0), .inl a1, .inl a2] h (fun rv h' => h = h' ∧ ∃ x : Int32, rv = some (.inl x) ∧ 0 ≤ x.toInt ∧ x.toInt ≤ (N : Int) - 1) := by
  refine tmc_of false rfl (by decide) (Nat.le_of_ble_eq_true rfl) ?_
  suffices HQ : ∀ Q0, Q0 = tRt cX7_other (some .int) (fun rv h' => h = h' ∧ ∃ x : Int32, rv = some (.inl x) ∧ 0 ≤ x.toInt ∧ x.toInt ≤ (N : Int) - 1) → TT l D mX7_other Q0 0 0 0 [(0, .inr (some a0)), (1, .inl a1), (2, .inl a2)] [] h from HQ _ rfl
  intro Q0 hQ
  have ba1 := i_ty a1
  refine tt_aload_n (pc := 0) dX7_other_0 (.head _) ?_
  refine tw_getr (pc := 1) dX7_other_1 flX7_16 hw ta0 (by decide) rfl (fun f10 q11 ef10 gf10 tq11 => ?_)
  refine tt_iload_n (pc := 4) dX7_other_4 (.tail _ (.tail _ (.head _))) ?_
  refine tw_ild (pc := 5) dX7_other_5 hw tq11 rfl (by omega) (by omega) (fun f13 x12 ef13 gf13 lx12 ux12 => ?_)
  refine tt_iload_n (pc := 6) dX7_other_6 (.tail _ (.head _)) ?_
  refine tw_icmp (tgt := 19) (pc := 7) dX7_other_7 (by decide) (fun (c14 : x12.toInt ≠ a1.toInt) => ?_) (fun (c14 : ¬ (x12.toInt ≠ a1.toInt)) => ?_)
  · skip
    refine tt_aload_n (pc := 19) dX7_other_19 (.head _) ?_
    refine tt_get (pc := 20) dX7_other_20 flX7_16 ef10 gf10 ?_
    refine tt_iload_n (pc := 23) dX7_other_23 (.tail _ (.tail _ (.head _))) ?_
    refine tt_iald (pc := 24) dX7_other_24 ef13 (i_nn (by omega)) gf13 ?_
    refine tt_stop ?_
    rw [hQ]
    exact Or.inr (Or.inl ⟨x12, dX7_other_25, rfl, Or.inl rfl, rfl, x12, rfl, by omega, by omega⟩)
  · skip
    refine tt_aload_n (pc := 10) dX7_other_10 (.head _) ?_
    refine tw_getr (pc := 11) dX7_other_11 flX7_20 hw ta0 (by decide) rfl (fun f15 q16 ef15 gf15 tq16 => ?_)
    refine tt_iload_n (pc := 14) dX7_other_14 (.tail _ (.tail _ (.head _))) ?_
    refine tw_ild (pc := 15) dX7_other_15 hw tq16 rfl (by omega) (by omega) (fun f18 x17 ef18 gf18 lx17 ux17 => ?_)
    refine tt_goto (tgt := 25) (pc := 16) dX7_other_16 (by decide) ?_
    refine tt_stop ?_
    rw [hQ]
    exact Or.inr (Or.inl ⟨x17, dX7_other_25, rfl, Or.inl rfl, rfl, x17, rfl, by omega, by omega⟩)
abbrev mX7_bodyOf : tM := (RX7, cX7_bodyOf, 3, 0, 0, false)
set_option maxHeartbeats 4000000 in
theorem g_X7_bodyOf {l : Launch} {D : va_G} {N : Nat} {pk : Int} {τ : List Nat} (hN2 : 2 ≤ N) (hN8 : N ≤ 8) (hp0 : 0 ≤ pk) (hp64 : pk ≤ 64) {h : List tC} (hw : WT N pk τ h) (a0 : Nat) (ta0 : τ[a0]? = some 7) (a1 : Int32) (la1 : 0 ≤ a1.toInt) (ua1 : a1.toInt ≤ 7) (a2 : Int32) (la2 : 0 ≤ a2.toInt) (ua2 : a2.toInt ≤ 7) : TMc l D yX7_bodyOf cX7_bodyOf 3 (some .int) 0 0 0 0 [.inr (some a0), .inl a1, .inl a2] h (fun rv h' => h = h' ∧ ∃ x : Int32, rv = some (.inl x) ∧ -2147483648 ≤ x.toInt ∧ x.toInt ≤ 2147483647) := by
  refine tmc_of false rfl (by decide) (Nat.le_of_ble_eq_true rfl) ?_
  suffices HQ : ∀ Q0, Q0 = tRt cX7_bodyOf (some .int) (fun rv h' => h = h' ∧ ∃ x : Int32, rv = some (.inl x) ∧ -2147483648 ≤ x.toInt ∧ x.toInt ≤ 2147483647) → TT l D mX7_bodyOf Q0 0 0 0 [(0, .inr (some a0)), (1, .inl a1), (2, .inl a2)] [] h from HQ _ rfl
  intro Q0 hQ
  refine tt_aload_n (pc := 0) dX7_bodyOf_0 (.head _) ?_
  refine tw_getr (pc := 1) dX7_bodyOf_1 flX7_32 hw ta0 (by decide) rfl (fun f18 q19 ef18 gf18 tq19 => ?_)
  refine tw_bipush (pc := 4) dX7_bodyOf_4 (by decide) (fun x20 ex20 => ?_)
  refine tt_iload_n (pc := 6) dX7_bodyOf_6 (.tail _ (.head _)) ?_
  refine tw_imul (c := 8) (pc := 7) dX7_bodyOf_7 (by omega) (by omega) (fun x21 ex21 => ?_)
  refine tt_iload_n (pc := 8) dX7_bodyOf_8 (.tail _ (.tail _ (.head _))) ?_
  refine tw_iadd (pc := 9) dX7_bodyOf_9 (by omega) (fun x22 ex22 => ?_)
  refine tw_ild (pc := 10) dX7_bodyOf_10 hw tq19 rfl (by omega) (by omega) (fun f24 x23 ef24 gf24 lx23 ux23 => ?_)
  refine tt_aload_n (pc := 11) dX7_bodyOf_11 (.head _) ?_
  refine tw_getr (pc := 12) dX7_bodyOf_12 flX7_35 hw ta0 (by decide) rfl (fun f25 q26 ef25 gf25 tq26 => ?_)
  refine tw_bipush (pc := 15) dX7_bodyOf_15 (by decide) (fun x27 ex27 => ?_)
  refine tt_iload_n (pc := 17) dX7_bodyOf_17 (.tail _ (.head _)) ?_
  refine tw_imul (c := 8) (pc := 18) dX7_bodyOf_18 (by omega) (by omega) (fun x28 ex28 => ?_)
  refine tt_iload_n (pc := 19) dX7_bodyOf_19 (.tail _ (.tail _ (.head _))) ?_
  refine tw_iadd (pc := 20) dX7_bodyOf_20 (by omega) (fun x29 ex29 => ?_)
  refine tw_ild (pc := 21) dX7_bodyOf_21 hw tq26 rfl (by omega) (by omega) (fun f31 x30 ef31 gf31 lx30 ux30 => ?_)
  refine tw_bipush (pc := 22) dX7_bodyOf_22 (by decide) (fun x32 ex32 => ?_)
  refine tt_ishl (pc := 24) dX7_bodyOf_24 ?_
  refine tw_any (fun x33 => ?_)
  have bx33 := i_ty x33
  refine tt_ior (pc := 25) dX7_bodyOf_25 ?_
  refine tw_any (fun x34 => ?_)
  have bx34 := i_ty x34
  refine tt_stop ?_
  rw [hQ]
  exact Or.inr (Or.inl ⟨x34, dX7_bodyOf_26, rfl, Or.inl rfl, rfl, x34, rfl, by omega, by omega⟩)
abbrev mX7_isStep : tM := (RX7, cX7_isStep, 3, 0, 0, false)
set_option maxHeartbeats 4000000 in
theorem g_X7_isStep {l : Launch} {D : va_G} {N : Nat} {pk : Int} {τ : List Nat} (hN2 : 2 ≤ N) (hN8 : N ≤ 8) (hp0 : 0 ≤ pk) (hp64 : pk ≤ 64) {h : List tC} (hw : WT N pk τ h) (a0 : Nat) (ta0 : τ[a0]? = some 7) (a1 : Int32) (la1 : 0 ≤ a1.toInt) (ua1 : a1.toInt ≤ 7) (a2 : Int32) (la2 : 0 ≤ a2.toInt) (ua2 : a2.toInt ≤ 11) : TMc l D yX7_isStep cX7_isStep 3 (some .boolean) 0 0 0 0 [.inr (some a0), .inl a1, .inl a2] h (fun rv h' => h = h' ∧ ∃ x : Int32, rv = some (.inl x) ∧ 0 ≤ x.toInt ∧ x.toInt ≤ 1) := by
  refine tmc_of false rfl (by decide) (Nat.le_of_ble_eq_true rfl) ?_
  suffices HQ : ∀ Q0, Q0 = tRt cX7_isStep (some .boolean) (fun rv h' => h = h' ∧ ∃ x : Int32, rv = some (.inl x) ∧ 0 ≤ x.toInt ∧ x.toInt ≤ 1) → TT l D mX7_isStep Q0 0 0 0 [(0, .inr (some a0)), (1, .inl a1), (2, .inl a2)] [] h from HQ _ rfl
  intro Q0 hQ
  have B61 : TT l D mX7_isStep Q0 0 0 61 [] [] h := by
    refine tw_iconst (pc := 61) dX7_isStep_61 (by decide) (fun x38 ex38 => ?_)
    refine tt_stop ?_
    rw [hQ]
    exact Or.inr (Or.inl ⟨x38, dX7_isStep_62, rfl, Or.inr ⟨rfl, bool01 (by omega) (by omega)⟩, rfl, x38, rfl, by omega, by omega⟩)
  refine tt_aload_n (pc := 0) dX7_isStep_0 (.head _) ?_
  refine tw_getr (pc := 1) dX7_isStep_1 flX7_7 hw ta0 (by decide) rfl (fun f39 q40 ef39 gf39 tq40 => ?_)
  refine tt_iload_n (pc := 4) dX7_isStep_4 (.tail _ (.tail _ (.head _))) ?_
  refine tw_zld (pc := 5) dX7_isStep_5 hw tq40 rfl (by omega) (by omega) (fun f42 x41 ef42 gf42 lx41 ux41 => ?_)
  refine tw_if (tgt := 61) (pc := 6) dX7_isStep_6 (by decide) (fun (c43 : x41.toInt = 0) => ?_) (fun (c43 : ¬ (x41.toInt = 0)) => ?_)
  · skip
    refine tt_loc [] (fun _ z => absurd z List.not_mem_nil) ?_
    exact B61 
  · skip
    refine tt_aload_n (pc := 9) dX7_isStep_9 (.head _) ?_
    refine tw_getr (pc := 10) dX7_isStep_10 flX7_32 hw ta0 (by decide) rfl (fun f44 q45 ef44 gf44 tq45 => ?_)
    refine tw_bipush (pc := 13) dX7_isStep_13 (by decide) (fun x46 ex46 => ?_)
    refine tt_iload_n (pc := 15) dX7_isStep_15 (.tail _ (.head _)) ?_
    refine tw_imul (c := 8) (pc := 16) dX7_isStep_16 (by omega) (by omega) (fun x47 ex47 => ?_)
    refine tt_aload_n (pc := 17) dX7_isStep_17 (.head _) ?_
    refine tw_getr (pc := 18) dX7_isStep_18 flX7_16 hw ta0 (by decide) rfl (fun f48 q49 ef48 gf48 tq49 => ?_)
    refine tt_iload_n (pc := 21) dX7_isStep_21 (.tail _ (.tail _ (.head _))) ?_
    refine tw_ild (pc := 22) dX7_isStep_22 hw tq49 rfl (by omega) (by omega) (fun f51 x50 ef51 gf51 lx50 ux50 => ?_)
    refine tw_iadd (pc := 23) dX7_isStep_23 (by omega) (fun x52 ex52 => ?_)
    refine tw_ild (pc := 24) dX7_isStep_24 hw tq45 rfl (by omega) (by omega) (fun f54 x53 ef54 gf54 lx53 ux53 => ?_)
    refine tt_iload_n (pc := 25) dX7_isStep_25 (.tail _ (.tail _ (.head _))) ?_
    refine tt_ishr (pc := 26) dX7_isStep_26 ?_
    refine tw_any (fun x55 => ?_)
    have bx55 := i_ty x55
    refine tw_iconst (pc := 27) dX7_isStep_27 (by decide) (fun x56 ex56 => ?_)
    refine tt_iand (pc := 28) dX7_isStep_28 ?_
    refine tw_any (fun x57 => ?_)
    have bx57 := i_ty x57
    refine tw_iconst (pc := 29) dX7_isStep_29 (by decide) (fun x58 ex58 => ?_)
    refine tw_icmp (tgt := 61) (pc := 30) dX7_isStep_30 (by decide) (fun (c59 : x57.toInt ≠ x58.toInt) => ?_) (fun (c59 : ¬ (x57.toInt ≠ x58.toInt)) => ?_)
    · skip
      refine tt_loc [] (fun _ z => absurd z List.not_mem_nil) ?_
      exact B61 
    · skip
      refine tt_aload_n (pc := 33) dX7_isStep_33 (.head _) ?_
      refine tt_get (pc := 34) dX7_isStep_34 flX7_32 ef44 gf44 ?_
      refine tw_bipush (pc := 37) dX7_isStep_37 (by decide) (fun x60 ex60 => ?_)
      refine tt_iload_n (pc := 39) dX7_isStep_39 (.tail _ (.head _)) ?_
      refine tw_imul (c := 8) (pc := 40) dX7_isStep_40 (by omega) (by omega) (fun x61 ex61 => ?_)
      refine tt_aload_n (pc := 41) dX7_isStep_41 (.head _) ?_
      refine tw_getr (pc := 42) dX7_isStep_42 flX7_20 hw ta0 (by decide) rfl (fun f62 q63 ef62 gf62 tq63 => ?_)
      refine tt_iload_n (pc := 45) dX7_isStep_45 (.tail _ (.tail _ (.head _))) ?_
      refine tw_ild (pc := 46) dX7_isStep_46 hw tq63 rfl (by omega) (by omega) (fun f65 x64 ef65 gf65 lx64 ux64 => ?_)
      refine tw_iadd (pc := 47) dX7_isStep_47 (by omega) (fun x66 ex66 => ?_)
      refine tw_ild (pc := 48) dX7_isStep_48 hw tq45 rfl (by omega) (by omega) (fun f68 x67 ef68 gf68 lx67 ux67 => ?_)
      refine tt_iload_n (pc := 49) dX7_isStep_49 (.tail _ (.tail _ (.head _))) ?_
      refine tt_ishr (pc := 50) dX7_isStep_50 ?_
      refine tw_any (fun x69 => ?_)
      have bx69 := i_ty x69
      refine tw_iconst (pc := 51) dX7_isStep_51 (by decide) (fun x70 ex70 => ?_)
      refine tt_iand (pc := 52) dX7_isStep_52 ?_
      refine tw_any (fun x71 => ?_)
      have bx71 := i_ty x71
      refine tw_iconst (pc := 53) dX7_isStep_53 (by decide) (fun x72 ex72 => ?_)
      refine tw_icmp (tgt := 61) (pc := 54) dX7_isStep_54 (by decide) (fun (c73 : x71.toInt ≠ x72.toInt) => ?_) (fun (c73 : ¬ (x71.toInt ≠ x72.toInt)) => ?_)
      · skip
        refine tt_loc [] (fun _ z => absurd z List.not_mem_nil) ?_
        exact B61 
      · skip
        refine tw_iconst (pc := 57) dX7_isStep_57 (by decide) (fun x74 ex74 => ?_)
        refine tt_goto (tgt := 62) (pc := 58) dX7_isStep_58 (by decide) ?_
        refine tt_stop ?_
        rw [hQ]
        exact Or.inr (Or.inl ⟨x74, dX7_isStep_62, rfl, Or.inr ⟨rfl, bool01 (by omega) (by omega)⟩, rfl, x74, rfl, by omega, by omega⟩)
abbrev mX7_shorten : tM := (RX7, cX7_shorten, 4, 0, 0, false)
set_option maxHeartbeats 4000000 in
theorem g_X7_shorten {l : Launch} {D : va_G} {N : Nat} {pk : Int} {τ : List Nat} (hN2 : 2 ≤ N) (hN8 : N ≤ 8) (hp0 : 0 ≤ pk) (hp64 : pk ≤ 64) {h : List tC} (hw : WT N pk τ h) (a0 : Nat) (ta0 : τ[a0]? = some 7) (a1 : Int32) (la1 : 0 ≤ a1.toInt) (ua1 : a1.toInt ≤ 7) (a2 : Int32) (la2 : 0 ≤ a2.toInt) (ua2 : a2.toInt ≤ 7) (a3 : Int32) : TMc l D yX7_shorten cX7_shorten 4 none 0 0 0 0 [.inr (some a0), .inl a1, .inl a2, .inl a3] h (fun rv h' => WT N pk τ h' ∧ Fr PMk τ h h' ∧ rv = none) := by
  refine tmc_of false rfl (by decide) (Nat.le_of_ble_eq_true rfl) ?_
  suffices HQ : ∀ Q0, Q0 = tRt cX7_shorten none (fun rv h' => WT N pk τ h' ∧ Fr PMk τ h h' ∧ rv = none) → TT l D mX7_shorten Q0 0 0 0 [(0, .inr (some a0)), (1, .inl a1), (2, .inl a2), (3, .inl a3)] [] h from HQ _ rfl
  intro Q0 hQ
  have hf : Fr PMk τ h h := Fr.rf
  have B27 : ∀ (hb : List tC) (hwb : WT N pk τ hb) (hfb : Fr PMk τ h hb), TT l D mX7_shorten Q0 0 0 27 [] [] hb := by
    intro hb hwb hfb
    refine tt_stop ?_
    rw [hQ]
    exact Or.inl ⟨dX7_shorten_27, rfl, rfl, hwb, hfb, rfl⟩
  have ba3 := i_ty a3
  refine tt_iload_n (pc := 0) dX7_shorten_0 (.tail _ (.tail _ (.tail _ (.head _)))) ?_
  refine tt_aload_n (pc := 1) dX7_shorten_1 (.head _) ?_
  refine tw_getr (pc := 2) dX7_shorten_2 flX7_89 hw ta0 (by decide) rfl (fun f14 q15 ef14 gf14 tq15 => ?_)
  refine tw_bipush (pc := 5) dX7_shorten_5 (by decide) (fun x16 ex16 => ?_)
  refine tt_iload_n (pc := 7) dX7_shorten_7 (.tail _ (.head _)) ?_
  refine tw_imul (c := 8) (pc := 8) dX7_shorten_8 (by omega) (by omega) (fun x17 ex17 => ?_)
  refine tt_iload_n (pc := 9) dX7_shorten_9 (.tail _ (.tail _ (.head _))) ?_
  refine tw_iadd (pc := 10) dX7_shorten_10 (by omega) (fun x18 ex18 => ?_)
  refine tw_ild (pc := 11) dX7_shorten_11 hw tq15 rfl (by omega) (by omega) (fun f20 x19 ef20 gf20 lx19 ux19 => ?_)
  refine tw_icmp (tgt := 27) (pc := 12) dX7_shorten_12 (by decide) (fun (c21 : x19.toInt ≤ a3.toInt) => ?_) (fun (c21 : ¬ (x19.toInt ≤ a3.toInt)) => ?_)
  · skip
    refine tt_loc [] (fun _ z => absurd z List.not_mem_nil) ?_
    exact B27 h hw hf
  · skip
    refine tt_aload_n (pc := 15) dX7_shorten_15 (.head _) ?_
    refine tt_get (pc := 16) dX7_shorten_16 flX7_89 ef14 gf14 ?_
    refine tw_bipush (pc := 19) dX7_shorten_19 (by decide) (fun x22 ex22 => ?_)
    refine tt_iload_n (pc := 21) dX7_shorten_21 (.tail _ (.head _)) ?_
    refine tw_imul (c := 8) (pc := 22) dX7_shorten_22 (by omega) (by omega) (fun x23 ex23 => ?_)
    refine tt_iload_n (pc := 23) dX7_shorten_23 (.tail _ (.tail _ (.head _))) ?_
    refine tw_iadd (pc := 24) dX7_shorten_24 (by omega) (fun x24 ex24 => ?_)
    refine tt_iload_n (pc := 25) dX7_shorten_25 (.tail _ (.tail _ (.tail _ (.head _)))) ?_
    refine tw_ist (P := PMk) (pc := 26) dX7_shorten_26 hw tq15 rfl (by omega) (by omega) (by omega) (by omega) (by decide) (fun f25 h26 eh26 gh26 kh26 wh26 fh26 => ?_)
    have hfh26 := hf.tr fh26
    refine tt_loc [] (fun _ z => absurd z List.not_mem_nil) ?_
    exact B27 h26 wh26 hfh26
abbrev mX7_measure : tM := (RX7, cX7_measure, 5, 1, 23, false)
set_option maxHeartbeats 4000000 in
theorem g_X7_measure {l : Launch} {D : va_G} {N : Nat} {pk : Int} {τ : List Nat} (hN2 : 2 ≤ N) (hN8 : N ≤ 8) (hp0 : 0 ≤ pk) (hp64 : pk ≤ 64) {h : List tC} (hw : WT N pk τ h) (a0 : Nat) (ta0 : τ[a0]? = some 7) (a1 : Int32) (la1 : 0 ≤ a1.toInt) (ua1 : a1.toInt ≤ 7) : TMc l D yX7_measure cX7_measure 5 none 1 23 0 0 [.inr (some a0), .inl a1] h (fun rv h' => WT N pk τ h' ∧ Fr PMk τ h h' ∧ rv = none) := by
  refine tmc_of false rfl (by decide) (Nat.le_of_ble_eq_true rfl) ?_
  suffices HQ : ∀ Q0, Q0 = tRt cX7_measure none (fun rv h' => WT N pk τ h' ∧ Fr PMk τ h h' ∧ rv = none) → TT l D mX7_measure Q0 0 0 0 [(0, .inr (some a0)), (1, .inl a1)] [] h from HQ _ rfl
  intro Q0 hQ
  have hf : Fr PMk τ h h := Fr.rf
  have B102 : ∀ (n102 : Nat) (hb : List tC) (hwb : WT N pk τ hb) (hfb : Fr PMk τ h hb) (x871 : Int32) (lx871 : 0 ≤ x871.toInt) (ux871 : x871.toInt ≤ 8), 8 - x871.toInt < n102 → TT l D mX7_measure Q0 0 0 102 [(0, .inr (some a0)), (2, .inl x871)] [] hb := by
    intro n102
    induction n102 with
    | zero =>
      intro hb hwb hfb x871 lx871 ux871 hn102
      exfalso
      omega
    | succ n102 ih102 =>
      intro hb hwb hfb x871 lx871 ux871 hn102
      have B112 : ∀ (n112 : Nat) (hb : List tC) (hwb : WT N pk τ hb) (hfb : Fr PMk τ h hb) (x872 : Int32) (lx872 : 0 ≤ x872.toInt) (ux872 : x872.toInt ≤ 7) (x873 : Int32) (lx873 : 0 ≤ x873.toInt) (ux873 : x873.toInt ≤ 8) (hn102 : 8 - x872.toInt < ((n102 + 1 : Nat) : Int)), 8 - x873.toInt < n112 → TT l D mX7_measure Q0 0 0 112 [(0, .inr (some a0)), (2, .inl x872), (3, .inl x873)] [] hb := by
        intro n112
        induction n112 with
        | zero =>
          intro hb hwb hfb x872 lx872 ux872 x873 lx873 ux873 hn102 hn112
          exfalso
          omega
        | succ n112 ih112 =>
          intro hb hwb hfb x872 lx872 ux872 x873 lx873 ux873 hn102 hn112
          have B123 : ∀ (n123 : Nat) (hb : List tC) (hwb : WT N pk τ hb) (hfb : Fr PMk τ h hb) (x874 : Int32) (lx874 : 0 ≤ x874.toInt) (ux874 : x874.toInt ≤ 7) (x875 : Int32) (lx875 : 0 ≤ x875.toInt) (ux875 : x875.toInt ≤ 7) (x876 : Int32) (lx876 : 0 ≤ x876.toInt) (ux876 : x876.toInt ≤ 8) (hn102 : 8 - x874.toInt < ((n102 + 1 : Nat) : Int)) (hn112 : 8 - x875.toInt < ((n112 + 1 : Nat) : Int)), 8 - x876.toInt < n123 → TT l D mX7_measure Q0 0 0 123 [(0, .inr (some a0)), (2, .inl x874), (3, .inl x875), (4, .inl x876)] [] hb := by
            intro n123
            induction n123 with
            | zero =>
              intro hb hwb hfb x874 lx874 ux874 x875 lx875 ux875 x876 lx876 ux876 hn102 hn112 hn123
              exfalso
              omega
            | succ n123 ih123 =>
              intro hb hwb hfb x874 lx874 ux874 x875 lx875 ux875 x876 lx876 ux876 hn102 hn112 hn123
              refine tt_iload (pc := 123) dX7_measure_123 (.tail _ (.tail _ (.tail _ (.head _)))) ?_
              refine tt_aload_n (pc := 125) dX7_measure_125 (.head _) ?_
              refine tw_geti (pc := 126) dX7_measure_126 flX7_92 hwb ta0 (by decide) rfl (fun f877 x878 ef877 gf877 lx878 ux878 => ?_)
              refine tw_icmp (tgt := 169) (pc := 129) dX7_measure_129 (by decide) (fun (c879 : x878.toInt ≤ x876.toInt) => ?_) (fun (c879 : ¬ (x878.toInt ≤ x876.toInt)) => ?_)
              · skip
                refine tw_iinc (pc := 169) dX7_measure_169 (.tail _ (.tail _ (.head _))) (by decide) (by decide) (by omega) (fun x880 ex880 => ?_)
                show TT _ _ _ _ _ _ _ [(3, .inl x880), (0, .inr (some a0)), (2, .inl x874), (4, .inl x876)] _ _
                refine tt_goto (tgt := 112) (pc := 172) dX7_measure_172 (by decide) ?_
                refine tt_loc [(0, .inr (some a0)), (2, .inl x874), (3, .inl x880)] (List.forall_mem_cons.mpr ⟨(.tail _ (.head _)), List.forall_mem_cons.mpr ⟨(.tail _ (.tail _ (.head _))), List.forall_mem_cons.mpr ⟨(.head _), fun _ z => absurd z List.not_mem_nil⟩⟩⟩) ?_
                exact ih112 hb hwb hfb x874 (by omega) (by omega) x880 (by omega) (by omega) (by omega) (by omega)
              · skip
                refine tt_aload_n (pc := 132) dX7_measure_132 (.head _) ?_
                refine tt_iload_n (pc := 133) dX7_measure_133 (.tail _ (.tail _ (.head _))) ?_
                refine tt_iload (pc := 134) dX7_measure_134 (.tail _ (.tail _ (.tail _ (.head _)))) ?_
                refine tt_aload_n (pc := 136) dX7_measure_136 (.head _) ?_
                refine tw_getr (pc := 137) dX7_measure_137 flX7_89 hwb ta0 (by decide) rfl (fun f881 q882 ef881 gf881 tq882 => ?_)
                refine tw_bipush (pc := 140) dX7_measure_140 (by decide) (fun x883 ex883 => ?_)
                refine tt_iload_n (pc := 142) dX7_measure_142 (.tail _ (.tail _ (.head _))) ?_
                refine tw_imul (c := 8) (pc := 143) dX7_measure_143 (by omega) (by omega) (fun x884 ex884 => ?_)
                refine tt_iload_n (pc := 144) dX7_measure_144 (.tail _ (.head _)) ?_
                refine tw_iadd (pc := 145) dX7_measure_145 (by omega) (fun x885 ex885 => ?_)
                refine tw_ild (pc := 146) dX7_measure_146 hwb tq882 rfl (by omega) (by omega) (fun f887 x886 ef887 gf887 lx886 ux886 => ?_)
                refine tt_aload_n (pc := 147) dX7_measure_147 (.head _) ?_
                refine tt_get (pc := 148) dX7_measure_148 flX7_89 ef881 gf881 ?_
                refine tw_bipush (pc := 151) dX7_measure_151 (by decide) (fun x888 ex888 => ?_)
                refine tt_iload_n (pc := 153) dX7_measure_153 (.tail _ (.head _)) ?_
                refine tw_imul (c := 8) (pc := 154) dX7_measure_154 (by omega) (by omega) (fun x889 ex889 => ?_)
                refine tt_iload (pc := 155) dX7_measure_155 (.tail _ (.tail _ (.tail _ (.head _)))) ?_
                refine tw_iadd (pc := 157) dX7_measure_157 (by omega) (fun x890 ex890 => ?_)
                refine tw_ild (pc := 158) dX7_measure_158 hwb tq882 rfl (by omega) (by omega) (fun f892 x891 ef892 gf892 lx891 ux891 => ?_)
                refine tt_iadd (pc := 159) dX7_measure_159 ?_
                refine tw_any (fun x893 => ?_)
                have bx893 := i_ty x893
                refine tw_callV (kc := 0) (ks := 0) (mc := 0) (ms := 0) (as := [.inl x875, .inl x876, .inl x893]) (st := []) (pc := 160) hwb ta0 (by decide) dX7_measure_160 lkX7_128 imX7_shorten seX7_shorten rfl rfl (by decide) (by decide) (Nat.le_of_ble_eq_true rfl) (g_X7_shorten hN2 hN8 hp0 hp64 hwb a0 ta0 x875 (by omega) (by omega) x876 (by omega) (by omega) x893) (fun rv h894 qh894 => ?_)
                obtain ⟨wh894, fh894, rfl⟩ := qh894
                have hfh894 := hfb.tr fh894
                show TT _ _ _ _ _ _ _ _ [] _
                refine tw_iinc (pc := 163) dX7_measure_163 (.tail _ (.tail _ (.tail _ (.head _)))) (by decide) (by decide) (by omega) (fun x895 ex895 => ?_)
                show TT _ _ _ _ _ _ _ [(4, .inl x895), (0, .inr (some a0)), (2, .inl x874), (3, .inl x875)] _ _
                refine tt_goto (tgt := 123) (pc := 166) dX7_measure_166 (by decide) ?_
                refine tt_loc [(0, .inr (some a0)), (2, .inl x874), (3, .inl x875), (4, .inl x895)] (List.forall_mem_cons.mpr ⟨(.tail _ (.head _)), List.forall_mem_cons.mpr ⟨(.tail _ (.tail _ (.head _))), List.forall_mem_cons.mpr ⟨(.tail _ (.tail _ (.tail _ (.head _)))), List.forall_mem_cons.mpr ⟨(.head _), fun _ z => absurd z List.not_mem_nil⟩⟩⟩⟩) ?_
                exact ih123 h894 wh894 hfh894 x874 (by omega) (by omega) x875 (by omega) (by omega) x895 (by omega) (by omega) (by omega) (by omega) (by omega)
          refine tt_iload_n (pc := 112) dX7_measure_112 (.tail _ (.tail _ (.head _))) ?_
          refine tt_aload_n (pc := 113) dX7_measure_113 (.head _) ?_
          refine tw_geti (pc := 114) dX7_measure_114 flX7_92 hwb ta0 (by decide) rfl (fun f896 x897 ef896 gf896 lx897 ux897 => ?_)
          refine tw_icmp (tgt := 175) (pc := 117) dX7_measure_117 (by decide) (fun (c898 : x897.toInt ≤ x873.toInt) => ?_) (fun (c898 : ¬ (x897.toInt ≤ x873.toInt)) => ?_)
          · skip
            refine tw_iinc (pc := 175) dX7_measure_175 (.tail _ (.head _)) (by decide) (by decide) (by omega) (fun x899 ex899 => ?_)
            show TT _ _ _ _ _ _ _ [(2, .inl x899), (0, .inr (some a0)), (3, .inl x873)] _ _
            refine tt_goto (tgt := 102) (pc := 178) dX7_measure_178 (by decide) ?_
            refine tt_loc [(0, .inr (some a0)), (2, .inl x899)] (List.forall_mem_cons.mpr ⟨(.tail _ (.head _)), List.forall_mem_cons.mpr ⟨(.head _), fun _ z => absurd z List.not_mem_nil⟩⟩) ?_
            exact ih102 hb hwb hfb x899 (by omega) (by omega) (by omega)
          · skip
            refine tw_iconst (pc := 120) dX7_measure_120 (by decide) (fun x900 ex900 => ?_)
            refine tt_istore (pc := 121) dX7_measure_121 (by decide) ?_
            show TT _ _ _ _ _ _ _ [(4, .inl x900), (0, .inr (some a0)), (2, .inl x872), (3, .inl x873)] _ _
            refine tt_loc [(0, .inr (some a0)), (2, .inl x872), (3, .inl x873), (4, .inl x900)] (List.forall_mem_cons.mpr ⟨(.tail _ (.head _)), List.forall_mem_cons.mpr ⟨(.tail _ (.tail _ (.head _))), List.forall_mem_cons.mpr ⟨(.tail _ (.tail _ (.tail _ (.head _)))), List.forall_mem_cons.mpr ⟨(.head _), fun _ z => absurd z List.not_mem_nil⟩⟩⟩⟩) ?_
            exact B123 9 hb hwb hfb x872 (by omega) (by omega) x873 (by omega) (by omega) x900 (by omega) (by omega) (by omega) (by omega) (by omega)
      refine tt_iload_n (pc := 102) dX7_measure_102 (.tail _ (.head _)) ?_
      refine tt_aload_n (pc := 103) dX7_measure_103 (.head _) ?_
      refine tw_geti (pc := 104) dX7_measure_104 flX7_92 hwb ta0 (by decide) rfl (fun f901 x902 ef901 gf901 lx902 ux902 => ?_)
      refine tw_icmp (tgt := 181) (pc := 107) dX7_measure_107 (by decide) (fun (c903 : x902.toInt ≤ x871.toInt) => ?_) (fun (c903 : ¬ (x902.toInt ≤ x871.toInt)) => ?_)
      · skip
        refine tt_stop ?_
        rw [hQ]
        exact Or.inl ⟨dX7_measure_181, rfl, rfl, hwb, hfb, rfl⟩
      · skip
        refine tw_iconst (pc := 110) dX7_measure_110 (by decide) (fun x904 ex904 => ?_)
        refine tt_istore_n (pc := 111) dX7_measure_111 (by decide) ?_
        show TT _ _ _ _ _ _ _ [(3, .inl x904), (0, .inr (some a0)), (2, .inl x871)] _ _
        refine tt_loc [(0, .inr (some a0)), (2, .inl x871), (3, .inl x904)] (List.forall_mem_cons.mpr ⟨(.tail _ (.head _)), List.forall_mem_cons.mpr ⟨(.tail _ (.tail _ (.head _))), List.forall_mem_cons.mpr ⟨(.head _), fun _ z => absurd z List.not_mem_nil⟩⟩⟩) ?_
        exact B112 9 hb hwb hfb x871 (by omega) (by omega) x904 (by omega) (by omega) (by omega) (by omega)
  have B35 : ∀ (n35 : Nat) (hb : List tC) (hwb : WT N pk τ hb) (hfb : Fr PMk τ h hb) (x905 : Int32) (lx905 : 0 ≤ x905.toInt) (ux905 : x905.toInt ≤ 12), 12 - x905.toInt < n35 → TT l D mX7_measure Q0 0 0 35 [(0, .inr (some a0)), (1, .inl a1), (2, .inl x905)] [] hb := by
    intro n35
    induction n35 with
    | zero =>
      intro hb hwb hfb x905 lx905 ux905 hn35
      exfalso
      omega
    | succ n35 ih35 =>
      intro hb hwb hfb x905 lx905 ux905 hn35
      have B94 : ∀ (hb : List tC) (hwb : WT N pk τ hb) (hfb : Fr PMk τ h hb) (x906 : Int32) (lx906 : 0 ≤ x906.toInt) (ux906 : x906.toInt ≤ 11) (hn35 : 12 - x906.toInt < ((n35 + 1 : Nat) : Int)), TT l D mX7_measure Q0 0 0 94 [(0, .inr (some a0)), (1, .inl a1), (2, .inl x906)] [] hb := by
        intro hb hwb hfb x906 lx906 ux906 hn35
        refine tw_iinc (pc := 94) dX7_measure_94 (.tail _ (.tail _ (.head _))) (by decide) (by decide) (by omega) (fun x907 ex907 => ?_)
        show TT _ _ _ _ _ _ _ [(2, .inl x907), (0, .inr (some a0)), (1, .inl a1)] _ _
        refine tt_goto (tgt := 35) (pc := 97) dX7_measure_97 (by decide) ?_
        refine tt_loc [(0, .inr (some a0)), (1, .inl a1), (2, .inl x907)] (List.forall_mem_cons.mpr ⟨(.tail _ (.head _)), List.forall_mem_cons.mpr ⟨(.tail _ (.tail _ (.head _))), List.forall_mem_cons.mpr ⟨(.head _), fun _ z => absurd z List.not_mem_nil⟩⟩⟩) ?_
        exact ih35 hb hwb hfb x907 (by omega) (by omega) (by omega)
      refine tt_iload_n (pc := 35) dX7_measure_35 (.tail _ (.tail _ (.head _))) ?_
      refine tw_bipush (pc := 36) dX7_measure_36 (by decide) (fun x908 ex908 => ?_)
      refine tw_icmp (tgt := 100) (pc := 38) dX7_measure_38 (by decide) (fun (c909 : x908.toInt ≤ x905.toInt) => ?_) (fun (c909 : ¬ (x908.toInt ≤ x905.toInt)) => ?_)
      · skip
        refine tw_iconst (pc := 100) dX7_measure_100 (by decide) (fun x910 ex910 => ?_)
        refine tt_istore_n (pc := 101) dX7_measure_101 (by decide) ?_
        show TT _ _ _ _ _ _ _ [(2, .inl x910), (0, .inr (some a0)), (1, .inl a1)] _ _
        refine tt_loc [(0, .inr (some a0)), (2, .inl x910)] (List.forall_mem_cons.mpr ⟨(.tail _ (.head _)), List.forall_mem_cons.mpr ⟨(.head _), fun _ z => absurd z List.not_mem_nil⟩⟩) ?_
        exact B102 9 hb hwb hfb x910 (by omega) (by omega) (by omega)
      · skip
        refine tt_aload_n (pc := 41) dX7_measure_41 (.head _) ?_
        refine tt_iload_n (pc := 42) dX7_measure_42 (.tail _ (.head _)) ?_
        refine tt_iload_n (pc := 43) dX7_measure_43 (.tail _ (.tail _ (.head _))) ?_
        refine tw_callV (kc := 0) (ks := 0) (mc := 0) (ms := 0) (as := [.inl a1, .inl x905]) (st := []) (pc := 44) hwb ta0 (by decide) dX7_measure_44 lkX7_125 imX7_isStep seX7_isStep rfl rfl (by decide) (by decide) (Nat.le_of_ble_eq_true rfl) (g_X7_isStep hN2 hN8 hp0 hp64 hwb a0 ta0 a1 (by omega) (by omega) x905 (by omega) (by omega)) (fun rv h911 qh911 => ?_)
        obtain ⟨rfl, x912, rfl, lx912, ux912⟩ := qh911
        show TT _ _ _ _ _ _ _ _ [.inl x912] _
        refine tw_if (tgt := 94) (pc := 47) dX7_measure_47 (by decide) (fun (c913 : x912.toInt = 0) => ?_) (fun (c913 : ¬ (x912.toInt = 0)) => ?_)
        · skip
          refine tt_loc [(0, .inr (some a0)), (1, .inl a1), (2, .inl x905)] (List.forall_mem_cons.mpr ⟨(.head _), List.forall_mem_cons.mpr ⟨(.tail _ (.head _)), List.forall_mem_cons.mpr ⟨(.tail _ (.tail _ (.head _))), fun _ z => absurd z List.not_mem_nil⟩⟩⟩) ?_
          exact B94 hb hwb hfb x905 (by omega) (by omega) (by omega)
        · skip
          refine tt_aload_n (pc := 50) dX7_measure_50 (.head _) ?_
          refine tt_aload_n (pc := 51) dX7_measure_51 (.head _) ?_
          refine tw_getr (pc := 52) dX7_measure_52 flX7_16 hwb ta0 (by decide) rfl (fun f914 q915 ef914 gf914 tq915 => ?_)
          refine tt_iload_n (pc := 55) dX7_measure_55 (.tail _ (.tail _ (.head _))) ?_
          refine tw_ild (pc := 56) dX7_measure_56 hwb tq915 rfl (by omega) (by omega) (fun f917 x916 ef917 gf917 lx916 ux916 => ?_)
          refine tt_aload_n (pc := 57) dX7_measure_57 (.head _) ?_
          refine tw_getr (pc := 58) dX7_measure_58 flX7_20 hwb ta0 (by decide) rfl (fun f918 q919 ef918 gf918 tq919 => ?_)
          refine tt_iload_n (pc := 61) dX7_measure_61 (.tail _ (.tail _ (.head _))) ?_
          refine tw_ild (pc := 62) dX7_measure_62 hwb tq919 rfl (by omega) (by omega) (fun f921 x920 ef921 gf921 lx920 ux920 => ?_)
          refine tt_aload_n (pc := 63) dX7_measure_63 (.head _) ?_
          refine tw_getr (pc := 64) dX7_measure_64 flX7_23 hwb ta0 (by decide) rfl (fun f922 q923 ef922 gf922 tq923 => ?_)
          refine tt_iload_n (pc := 67) dX7_measure_67 (.tail _ (.tail _ (.head _))) ?_
          refine tw_ild (pc := 68) dX7_measure_68 hwb tq923 rfl (by omega) (by omega) (fun f925 x924 ef925 gf925 lx924 ux924 => ?_)
          refine tw_callV (kc := 0) (ks := 0) (mc := 0) (ms := 0) (as := [.inl x916, .inl x920, .inl x924]) (st := []) (pc := 69) hwb ta0 (by decide) dX7_measure_69 lkX7_128 imX7_shorten seX7_shorten rfl rfl (by decide) (by decide) (Nat.le_of_ble_eq_true rfl) (g_X7_shorten hN2 hN8 hp0 hp64 hwb a0 ta0 x916 (by omega) (by omega) x920 (by omega) (by omega) x924) (fun rv h926 qh926 => ?_)
          obtain ⟨wh926, fh926, rfl⟩ := qh926
          have hfh926 := hfb.tr fh926
          show TT _ _ _ _ _ _ _ _ [] _
          refine tt_aload_n (pc := 72) dX7_measure_72 (.head _) ?_
          refine tt_aload_n (pc := 73) dX7_measure_73 (.head _) ?_
          refine tw_getr (pc := 74) dX7_measure_74 flX7_20 wh926 ta0 (by decide) rfl (fun f927 q928 ef927 gf927 tq928 => ?_)
          refine tt_iload_n (pc := 77) dX7_measure_77 (.tail _ (.tail _ (.head _))) ?_
          refine tw_ild (pc := 78) dX7_measure_78 wh926 tq928 rfl (by omega) (by omega) (fun f930 x929 ef930 gf930 lx929 ux929 => ?_)
          refine tt_aload_n (pc := 79) dX7_measure_79 (.head _) ?_
          refine tw_getr (pc := 80) dX7_measure_80 flX7_16 wh926 ta0 (by decide) rfl (fun f931 q932 ef931 gf931 tq932 => ?_)
          refine tt_iload_n (pc := 83) dX7_measure_83 (.tail _ (.tail _ (.head _))) ?_
          refine tw_ild (pc := 84) dX7_measure_84 wh926 tq932 rfl (by omega) (by omega) (fun f934 x933 ef934 gf934 lx933 ux933 => ?_)
          refine tt_aload_n (pc := 85) dX7_measure_85 (.head _) ?_
          refine tw_getr (pc := 86) dX7_measure_86 flX7_23 wh926 ta0 (by decide) rfl (fun f935 q936 ef935 gf935 tq936 => ?_)
          refine tt_iload_n (pc := 89) dX7_measure_89 (.tail _ (.tail _ (.head _))) ?_
          refine tw_ild (pc := 90) dX7_measure_90 wh926 tq936 rfl (by omega) (by omega) (fun f938 x937 ef938 gf938 lx937 ux937 => ?_)
          refine tw_callV (kc := 0) (ks := 0) (mc := 0) (ms := 0) (as := [.inl x929, .inl x933, .inl x937]) (st := []) (pc := 91) wh926 ta0 (by decide) dX7_measure_91 lkX7_128 imX7_shorten seX7_shorten rfl rfl (by decide) (by decide) (Nat.le_of_ble_eq_true rfl) (g_X7_shorten hN2 hN8 hp0 hp64 wh926 a0 ta0 x929 (by omega) (by omega) x933 (by omega) (by omega) x937) (fun rv h939 qh939 => ?_)
          obtain ⟨wh939, fh939, rfl⟩ := qh939
          have hfh939 := hfh926.tr fh939
          show TT _ _ _ _ _ _ _ _ [] _
          refine tt_loc [(0, .inr (some a0)), (1, .inl a1), (2, .inl x905)] (List.forall_mem_cons.mpr ⟨(.head _), List.forall_mem_cons.mpr ⟨(.tail _ (.head _)), List.forall_mem_cons.mpr ⟨(.tail _ (.tail _ (.head _))), fun _ z => absurd z List.not_mem_nil⟩⟩⟩) ?_
          exact B94 h939 wh939 hfh939 x905 (by omega) (by omega) (by omega)
  have B2 : ∀ (n2 : Nat) (hb : List tC) (hwb : WT N pk τ hb) (hfb : Fr PMk τ h hb) (x940 : Int32) (lx940 : 0 ≤ x940.toInt) (ux940 : x940.toInt ≤ 64), 64 - x940.toInt < n2 → TT l D mX7_measure Q0 0 0 2 [(0, .inr (some a0)), (1, .inl a1), (2, .inl x940)] [] hb := by
    intro n2
    induction n2 with
    | zero =>
      intro hb hwb hfb x940 lx940 ux940 hn2
      exfalso
      omega
    | succ n2 ih2 =>
      intro hb hwb hfb x940 lx940 ux940 hn2
      refine tt_iload_n (pc := 2) dX7_measure_2 (.tail _ (.tail _ (.head _))) ?_
      refine tw_bipush (pc := 3) dX7_measure_3 (by decide) (fun x941 ex941 => ?_)
      refine tw_icmp (tgt := 33) (pc := 5) dX7_measure_5 (by decide) (fun (c942 : x941.toInt ≤ x940.toInt) => ?_) (fun (c942 : ¬ (x941.toInt ≤ x940.toInt)) => ?_)
      · skip
        refine tw_iconst (pc := 33) dX7_measure_33 (by decide) (fun x943 ex943 => ?_)
        refine tt_istore_n (pc := 34) dX7_measure_34 (by decide) ?_
        show TT _ _ _ _ _ _ _ [(2, .inl x943), (0, .inr (some a0)), (1, .inl a1)] _ _
        refine tt_loc [(0, .inr (some a0)), (1, .inl a1), (2, .inl x943)] (List.forall_mem_cons.mpr ⟨(.tail _ (.head _)), List.forall_mem_cons.mpr ⟨(.tail _ (.tail _ (.head _))), List.forall_mem_cons.mpr ⟨(.head _), fun _ z => absurd z List.not_mem_nil⟩⟩⟩) ?_
        exact B35 13 hb hwb hfb x943 (by omega) (by omega) (by omega)
      · skip
        refine tt_aload_n (pc := 8) dX7_measure_8 (.head _) ?_
        refine tw_getr (pc := 9) dX7_measure_9 flX7_89 hwb ta0 (by decide) rfl (fun f944 q945 ef944 gf944 tq945 => ?_)
        refine tt_iload_n (pc := 12) dX7_measure_12 (.tail _ (.tail _ (.head _))) ?_
        refine tt_iload_n (pc := 13) dX7_measure_13 (.tail _ (.tail _ (.head _))) ?_
        refine tw_bipush (pc := 14) dX7_measure_14 (by decide) (fun x946 ex946 => ?_)
        refine tw_irem (c := 9) (pc := 16) dX7_measure_16 (by omega) (by omega) (by decide) (fun x947 ex947 => ?_)
        refine tw_if (tgt := 24) (pc := 17) dX7_measure_17 (by decide) (fun (c948 : x947.toInt ≠ 0) => ?_) (fun (c948 : ¬ (x947.toInt ≠ 0)) => ?_)
        · skip
          refine tw_ldc (n := 1000000) (pc := 24) dX7_measure_24 rfl kcX7_124 (by decide) (fun x949 ex949 => ?_)
          refine tw_ist (P := PMk) (pc := 26) dX7_measure_26 hwb tq945 rfl (by omega) (by omega) (by omega) (by omega) (by decide) (fun f950 h951 eh951 gh951 kh951 wh951 fh951 => ?_)
          have hfh951 := hfb.tr fh951
          refine tw_iinc (pc := 27) dX7_measure_27 (.tail _ (.tail _ (.head _))) (by decide) (by decide) (by omega) (fun x952 ex952 => ?_)
          show TT _ _ _ _ _ _ _ [(2, .inl x952), (0, .inr (some a0)), (1, .inl a1)] _ _
          refine tt_goto (tgt := 2) (pc := 30) dX7_measure_30 (by decide) ?_
          refine tt_loc [(0, .inr (some a0)), (1, .inl a1), (2, .inl x952)] (List.forall_mem_cons.mpr ⟨(.tail _ (.head _)), List.forall_mem_cons.mpr ⟨(.tail _ (.tail _ (.head _))), List.forall_mem_cons.mpr ⟨(.head _), fun _ z => absurd z List.not_mem_nil⟩⟩⟩) ?_
          exact ih2 h951 wh951 hfh951 x952 (by omega) (by omega) (by omega)
        · skip
          refine tw_iconst (pc := 20) dX7_measure_20 (by decide) (fun x953 ex953 => ?_)
          refine tt_goto (tgt := 26) (pc := 21) dX7_measure_21 (by decide) ?_
          refine tw_ist (P := PMk) (pc := 26) dX7_measure_26 hwb tq945 rfl (by omega) (by omega) (by omega) (by omega) (by decide) (fun f954 h955 eh955 gh955 kh955 wh955 fh955 => ?_)
          have hfh955 := hfb.tr fh955
          refine tw_iinc (pc := 27) dX7_measure_27 (.tail _ (.tail _ (.head _))) (by decide) (by decide) (by omega) (fun x956 ex956 => ?_)
          show TT _ _ _ _ _ _ _ [(2, .inl x956), (0, .inr (some a0)), (1, .inl a1)] _ _
          refine tt_goto (tgt := 2) (pc := 30) dX7_measure_30 (by decide) ?_
          refine tt_loc [(0, .inr (some a0)), (1, .inl a1), (2, .inl x956)] (List.forall_mem_cons.mpr ⟨(.tail _ (.head _)), List.forall_mem_cons.mpr ⟨(.tail _ (.tail _ (.head _))), List.forall_mem_cons.mpr ⟨(.head _), fun _ z => absurd z List.not_mem_nil⟩⟩⟩) ?_
          exact ih2 h955 wh955 hfh955 x956 (by omega) (by omega) (by omega)
  refine tw_iconst (pc := 0) dX7_measure_0 (by decide) (fun x957 ex957 => ?_)
  refine tt_istore_n (pc := 1) dX7_measure_1 (by decide) ?_
  show TT _ _ _ _ _ _ _ [(2, .inl x957), (0, .inr (some a0)), (1, .inl a1)] _ _
  refine tt_loc [(0, .inr (some a0)), (1, .inl a1), (2, .inl x957)] (List.forall_mem_cons.mpr ⟨(.tail _ (.head _)), List.forall_mem_cons.mpr ⟨(.tail _ (.tail _ (.head _))), List.forall_mem_cons.mpr ⟨(.head _), fun _ z => absurd z List.not_mem_nil⟩⟩⟩) ?_
  exact B2 65 h hw hf x957 (by omega) (by omega) (by omega)
abbrev mX7_hop : tM := (RX7, cX7_hop, 4, 1, 22, false)
set_option maxHeartbeats 4000000 in
theorem g_X7_hop {l : Launch} {D : va_G} {N : Nat} {pk : Int} {τ : List Nat} (hN2 : 2 ≤ N) (hN8 : N ≤ 8) (hp0 : 0 ≤ pk) (hp64 : pk ≤ 64) {h : List tC} (hw : WT N pk τ h) (a0 : Nat) (ta0 : τ[a0]? = some 7) (a1 : Int32) (la1 : 0 ≤ a1.toInt) (ua1 : a1.toInt ≤ 7) (a2 : Int32) (la2 : 0 ≤ a2.toInt) (ua2 : a2.toInt ≤ 7) : TMc l D yX7_hop cX7_hop 4 (some .int) 1 22 0 0 [.inr (some a0), .inl a1, .inl a2] h (fun rv h' => h = h' ∧ ∃ x : Int32, rv = some (.inl x) ∧ -1 ≤ x.toInt ∧ x.toInt ≤ 11) := by
  refine tmc_of false rfl (by decide) (Nat.le_of_ble_eq_true rfl) ?_
  suffices HQ : ∀ Q0, Q0 = tRt cX7_hop (some .int) (fun rv h' => h = h' ∧ ∃ x : Int32, rv = some (.inl x) ∧ -1 ≤ x.toInt ∧ x.toInt ≤ 11) → TT l D mX7_hop Q0 0 0 0 [(0, .inr (some a0)), (1, .inl a1), (2, .inl a2)] [] h from HQ _ rfl
  intro Q0 hQ
  have B25 : ∀ (n25 : Nat) (x291 : Int32) (lx291 : 0 ≤ x291.toInt) (ux291 : x291.toInt ≤ 12), 12 - x291.toInt < n25 → TT l D mX7_hop Q0 0 0 25 [(0, .inr (some a0)), (1, .inl a1), (2, .inl a2), (3, .inl x291)] [] h := by
    intro n25
    induction n25 with
    | zero =>
      intro x291 lx291 ux291 hn25
      exfalso
      omega
    | succ n25 ih25 =>
      intro x291 lx291 ux291 hn25
      have B88 : ∀ (x292 : Int32) (lx292 : 0 ≤ x292.toInt) (ux292 : x292.toInt ≤ 11) (hn25 : 12 - x292.toInt < ((n25 + 1 : Nat) : Int)), TT l D mX7_hop Q0 0 0 88 [(0, .inr (some a0)), (1, .inl a1), (2, .inl a2), (3, .inl x292)] [] h := by
        intro x292 lx292 ux292 hn25
        refine tw_iinc (pc := 88) dX7_hop_88 (.tail _ (.tail _ (.tail _ (.head _)))) (by decide) (by decide) (by omega) (fun x293 ex293 => ?_)
        show TT _ _ _ _ _ _ _ [(3, .inl x293), (0, .inr (some a0)), (1, .inl a1), (2, .inl a2)] _ _
        refine tt_goto (tgt := 25) (pc := 91) dX7_hop_91 (by decide) ?_
        refine tt_loc [(0, .inr (some a0)), (1, .inl a1), (2, .inl a2), (3, .inl x293)] (List.forall_mem_cons.mpr ⟨(.tail _ (.head _)), List.forall_mem_cons.mpr ⟨(.tail _ (.tail _ (.head _))), List.forall_mem_cons.mpr ⟨(.tail _ (.tail _ (.tail _ (.head _)))), List.forall_mem_cons.mpr ⟨(.head _), fun _ z => absurd z List.not_mem_nil⟩⟩⟩⟩) ?_
        exact ih25 x293 (by omega) (by omega) (by omega)
      refine tt_iload_n (pc := 25) dX7_hop_25 (.tail _ (.tail _ (.tail _ (.head _)))) ?_
      refine tw_bipush (pc := 26) dX7_hop_26 (by decide) (fun x294 ex294 => ?_)
      refine tw_icmp (tgt := 94) (pc := 28) dX7_hop_28 (by decide) (fun (c295 : x294.toInt ≤ x291.toInt) => ?_) (fun (c295 : ¬ (x294.toInt ≤ x291.toInt)) => ?_)
      · skip
        refine tw_iconst (pc := 94) dX7_hop_94 (by decide) (fun x296 ex296 => ?_)
        refine tt_stop ?_
        rw [hQ]
        exact Or.inr (Or.inl ⟨x296, dX7_hop_95, rfl, Or.inl rfl, rfl, x296, rfl, by omega, by omega⟩)
      · skip
        refine tt_aload_n (pc := 31) dX7_hop_31 (.head _) ?_
        refine tt_iload_n (pc := 32) dX7_hop_32 (.tail _ (.head _)) ?_
        refine tt_iload_n (pc := 33) dX7_hop_33 (.tail _ (.tail _ (.tail _ (.head _)))) ?_
        refine tw_callV (kc := 0) (ks := 0) (mc := 0) (ms := 0) (as := [.inl a1, .inl x291]) (st := []) (pc := 34) hw ta0 (by decide) dX7_hop_34 lkX7_110 imX7_isUp seX7_isUp rfl rfl (by decide) (by decide) (Nat.le_of_ble_eq_true rfl) (g_X7_isUp hN2 hN8 hp0 hp64 hw a0 ta0 a1 x291 (by omega) (by omega)) (fun rv h297 qh297 => ?_)
        obtain ⟨rfl, x298, rfl, lx298, ux298⟩ := qh297
        show TT _ _ _ _ _ _ _ _ [.inl x298] _
        refine tw_if (tgt := 88) (pc := 37) dX7_hop_37 (by decide) (fun (c299 : x298.toInt = 0) => ?_) (fun (c299 : ¬ (x298.toInt = 0)) => ?_)
        · skip
          refine tt_loc [(0, .inr (some a0)), (1, .inl a1), (2, .inl a2), (3, .inl x291)] (List.forall_mem_cons.mpr ⟨(.head _), List.forall_mem_cons.mpr ⟨(.tail _ (.head _)), List.forall_mem_cons.mpr ⟨(.tail _ (.tail _ (.head _))), List.forall_mem_cons.mpr ⟨(.tail _ (.tail _ (.tail _ (.head _)))), fun _ z => absurd z List.not_mem_nil⟩⟩⟩⟩) ?_
          exact B88 x291 (by omega) (by omega) (by omega)
        · skip
          refine tt_aload_n (pc := 40) dX7_hop_40 (.head _) ?_
          refine tt_iload_n (pc := 41) dX7_hop_41 (.tail _ (.head _)) ?_
          refine tt_iload_n (pc := 42) dX7_hop_42 (.tail _ (.tail _ (.tail _ (.head _)))) ?_
          refine tw_callV (kc := 0) (ks := 0) (mc := 0) (ms := 0) (as := [.inl a1, .inl x291]) (st := []) (pc := 43) hw ta0 (by decide) dX7_hop_43 lkX7_125 imX7_isStep seX7_isStep rfl rfl (by decide) (by decide) (Nat.le_of_ble_eq_true rfl) (g_X7_isStep hN2 hN8 hp0 hp64 hw a0 ta0 a1 (by omega) (by omega) x291 (by omega) (by omega)) (fun rv h300 qh300 => ?_)
          obtain ⟨rfl, x301, rfl, lx301, ux301⟩ := qh300
          show TT _ _ _ _ _ _ _ _ [.inl x301] _
          refine tw_if (tgt := 88) (pc := 46) dX7_hop_46 (by decide) (fun (c302 : x301.toInt = 0) => ?_) (fun (c302 : ¬ (x301.toInt = 0)) => ?_)
          · skip
            refine tt_loc [(0, .inr (some a0)), (1, .inl a1), (2, .inl a2), (3, .inl x291)] (List.forall_mem_cons.mpr ⟨(.head _), List.forall_mem_cons.mpr ⟨(.tail _ (.head _)), List.forall_mem_cons.mpr ⟨(.tail _ (.tail _ (.head _))), List.forall_mem_cons.mpr ⟨(.tail _ (.tail _ (.tail _ (.head _)))), fun _ z => absurd z List.not_mem_nil⟩⟩⟩⟩) ?_
            exact B88 x291 (by omega) (by omega) (by omega)
          · skip
            refine tt_aload_n (pc := 49) dX7_hop_49 (.head _) ?_
            refine tw_getr (pc := 50) dX7_hop_50 flX7_23 hw ta0 (by decide) rfl (fun f303 q304 ef303 gf303 tq304 => ?_)
            refine tt_iload_n (pc := 53) dX7_hop_53 (.tail _ (.tail _ (.tail _ (.head _)))) ?_
            refine tw_ild (pc := 54) dX7_hop_54 hw tq304 rfl (by omega) (by omega) (fun f306 x305 ef306 gf306 lx305 ux305 => ?_)
            refine tt_aload_n (pc := 55) dX7_hop_55 (.head _) ?_
            refine tw_getr (pc := 56) dX7_hop_56 flX7_89 hw ta0 (by decide) rfl (fun f307 q308 ef307 gf307 tq308 => ?_)
            refine tw_bipush (pc := 59) dX7_hop_59 (by decide) (fun x309 ex309 => ?_)
            refine tt_aload_n (pc := 61) dX7_hop_61 (.head _) ?_
            refine tt_iload_n (pc := 62) dX7_hop_62 (.tail _ (.head _)) ?_
            refine tt_iload_n (pc := 63) dX7_hop_63 (.tail _ (.tail _ (.tail _ (.head _)))) ?_
            refine tw_callV (kc := 0) (ks := 0) (mc := 0) (ms := 0) (as := [.inl a1, .inl x291]) (st := [.inl x309, .inr (some q308), .inl x305]) (pc := 64) hw ta0 (by decide) dX7_hop_64 lkX7_132 imX7_other seX7_other rfl rfl (by decide) (by decide) (Nat.le_of_ble_eq_true rfl) (g_X7_other hN2 hN8 hp0 hp64 hw a0 ta0 a1 x291 (by omega) (by omega)) (fun rv h310 qh310 => ?_)
            obtain ⟨rfl, x311, rfl, lx311, ux311⟩ := qh310
            show TT _ _ _ _ _ _ _ _ [.inl x311, .inl x309, .inr (some q308), .inl x305] _
            refine tw_imul (c := 8) (pc := 67) dX7_hop_67 (by omega) (by omega) (fun x312 ex312 => ?_)
            refine tt_iload_n (pc := 68) dX7_hop_68 (.tail _ (.tail _ (.head _))) ?_
            refine tw_iadd (pc := 69) dX7_hop_69 (by omega) (fun x313 ex313 => ?_)
            refine tw_ild (pc := 70) dX7_hop_70 hw tq308 rfl (by omega) (by omega) (fun f315 x314 ef315 gf315 lx314 ux314 => ?_)
            refine tt_iadd (pc := 71) dX7_hop_71 ?_
            refine tw_any (fun x316 => ?_)
            have bx316 := i_ty x316
            refine tt_aload_n (pc := 72) dX7_hop_72 (.head _) ?_
            refine tt_get (pc := 73) dX7_hop_73 flX7_89 ef307 gf307 ?_
            refine tw_bipush (pc := 76) dX7_hop_76 (by decide) (fun x317 ex317 => ?_)
            refine tt_iload_n (pc := 78) dX7_hop_78 (.tail _ (.head _)) ?_
            refine tw_imul (c := 8) (pc := 79) dX7_hop_79 (by omega) (by omega) (fun x318 ex318 => ?_)
            refine tt_iload_n (pc := 80) dX7_hop_80 (.tail _ (.tail _ (.head _))) ?_
            refine tw_iadd (pc := 81) dX7_hop_81 (by omega) (fun x319 ex319 => ?_)
            refine tw_ild (pc := 82) dX7_hop_82 hw tq308 rfl (by omega) (by omega) (fun f321 x320 ef321 gf321 lx320 ux320 => ?_)
            refine tw_icmp (tgt := 88) (pc := 83) dX7_hop_83 (by decide) (fun (c322 : x316.toInt ≠ x320.toInt) => ?_) (fun (c322 : ¬ (x316.toInt ≠ x320.toInt)) => ?_)
            · skip
              refine tt_loc [(0, .inr (some a0)), (1, .inl a1), (2, .inl a2), (3, .inl x291)] (List.forall_mem_cons.mpr ⟨(.head _), List.forall_mem_cons.mpr ⟨(.tail _ (.head _)), List.forall_mem_cons.mpr ⟨(.tail _ (.tail _ (.head _))), List.forall_mem_cons.mpr ⟨(.tail _ (.tail _ (.tail _ (.head _)))), fun _ z => absurd z List.not_mem_nil⟩⟩⟩⟩) ?_
              exact B88 x291 (by omega) (by omega) (by omega)
            · skip
              refine tt_iload_n (pc := 86) dX7_hop_86 (.tail _ (.tail _ (.tail _ (.head _)))) ?_
              refine tt_stop ?_
              rw [hQ]
              exact Or.inr (Or.inl ⟨x291, dX7_hop_87, rfl, Or.inl rfl, rfl, x291, rfl, by omega, by omega⟩)
  have B21 : TT l D mX7_hop Q0 0 0 21 [] [] h := by
    refine tw_iconst (pc := 21) dX7_hop_21 (by decide) (fun x323 ex323 => ?_)
    refine tt_stop ?_
    rw [hQ]
    exact Or.inr (Or.inl ⟨x323, dX7_hop_22, rfl, Or.inl rfl, rfl, x323, rfl, by omega, by omega⟩)
  refine tt_iload_n (pc := 0) dX7_hop_0 (.tail _ (.tail _ (.head _))) ?_
  refine tt_iload_n (pc := 1) dX7_hop_1 (.tail _ (.head _)) ?_
  refine tw_icmp (tgt := 21) (pc := 2) dX7_hop_2 (by decide) (fun (c324 : a2.toInt = a1.toInt) => ?_) (fun (c324 : ¬ (a2.toInt = a1.toInt)) => ?_)
  · skip
    refine tt_loc [] (fun _ z => absurd z List.not_mem_nil) ?_
    exact B21 
  · skip
    refine tt_aload_n (pc := 5) dX7_hop_5 (.head _) ?_
    refine tw_getr (pc := 6) dX7_hop_6 flX7_89 hw ta0 (by decide) rfl (fun f325 q326 ef325 gf325 tq326 => ?_)
    refine tw_bipush (pc := 9) dX7_hop_9 (by decide) (fun x327 ex327 => ?_)
    refine tt_iload_n (pc := 11) dX7_hop_11 (.tail _ (.head _)) ?_
    refine tw_imul (c := 8) (pc := 12) dX7_hop_12 (by omega) (by omega) (fun x328 ex328 => ?_)
    refine tt_iload_n (pc := 13) dX7_hop_13 (.tail _ (.tail _ (.head _))) ?_
    refine tw_iadd (pc := 14) dX7_hop_14 (by omega) (fun x329 ex329 => ?_)
    refine tw_ild (pc := 15) dX7_hop_15 hw tq326 rfl (by omega) (by omega) (fun f331 x330 ef331 gf331 lx330 ux330 => ?_)
    refine tw_ldc (n := 1000000) (pc := 16) dX7_hop_16 rfl kcX7_124 (by decide) (fun x332 ex332 => ?_)
    refine tw_icmp (tgt := 23) (pc := 18) dX7_hop_18 (by decide) (fun (c333 : x330.toInt < x332.toInt) => ?_) (fun (c333 : ¬ (x330.toInt < x332.toInt)) => ?_)
    · skip
      refine tw_iconst (pc := 23) dX7_hop_23 (by decide) (fun x334 ex334 => ?_)
      refine tt_istore_n (pc := 24) dX7_hop_24 (by decide) ?_
      show TT _ _ _ _ _ _ _ [(3, .inl x334), (0, .inr (some a0)), (1, .inl a1), (2, .inl a2)] _ _
      refine tt_loc [(0, .inr (some a0)), (1, .inl a1), (2, .inl a2), (3, .inl x334)] (List.forall_mem_cons.mpr ⟨(.tail _ (.head _)), List.forall_mem_cons.mpr ⟨(.tail _ (.tail _ (.head _))), List.forall_mem_cons.mpr ⟨(.tail _ (.tail _ (.tail _ (.head _)))), List.forall_mem_cons.mpr ⟨(.head _), fun _ z => absurd z List.not_mem_nil⟩⟩⟩⟩) ?_
      exact B25 13 x334 (by omega) (by omega) (by omega)
    · skip
      refine tt_loc [] (fun _ z => absurd z List.not_mem_nil) ?_
      exact B21 
abbrev mX7_egress : tM := (RX7, cX7_egress, 4, 0, 0, false)
set_option maxHeartbeats 4000000 in
theorem g_X7_egress {l : Launch} {D : va_G} {N : Nat} {pk : Int} {τ : List Nat} (hN2 : 2 ≤ N) (hN8 : N ≤ 8) (hp0 : 0 ≤ pk) (hp64 : pk ≤ 64) {h : List tC} (hw : WT N pk τ h) (a0 : Nat) (ta0 : τ[a0]? = some 7) (a1 : Int32) (la1 : 0 ≤ a1.toInt) (ua1 : a1.toInt ≤ 7) (a2 : Int32) : TMc l D yX7_egress cX7_egress 4 (some .int) 0 0 0 0 [.inr (some a0), .inl a1, .inl a2] h (fun rv h' => h = h' ∧ ∃ x : Int32, rv = some (.inl x) ∧ -1 ≤ x.toInt ∧ x.toInt ≤ 7) := by
  refine tmc_of false rfl (by decide) (Nat.le_of_ble_eq_true rfl) ?_
  suffices HQ : ∀ Q0, Q0 = tRt cX7_egress (some .int) (fun rv h' => h = h' ∧ ∃ x : Int32, rv = some (.inl x) ∧ -1 ≤ x.toInt ∧ x.toInt ≤ 7) → TT l D mX7_egress Q0 0 0 0 [(0, .inr (some a0)), (1, .inl a1), (2, .inl a2)] [] h from HQ _ rfl
  intro Q0 hQ
  have B2 : ∀ (n2 : Nat) (x194 : Int32) (lx194 : 0 ≤ x194.toInt) (ux194 : x194.toInt ≤ 8), 8 - x194.toInt < n2 → TT l D mX7_egress Q0 0 0 2 [(0, .inr (some a0)), (1, .inl a1), (2, .inl a2), (3, .inl x194)] [] h := by
    intro n2
    induction n2 with
    | zero =>
      intro x194 lx194 ux194 hn2
      exfalso
      omega
    | succ n2 ih2 =>
      intro x194 lx194 ux194 hn2
      have B47 : ∀ (x195 : Int32) (lx195 : 0 ≤ x195.toInt) (ux195 : x195.toInt ≤ 7) (hn2 : 8 - x195.toInt < ((n2 + 1 : Nat) : Int)), TT l D mX7_egress Q0 0 0 47 [(0, .inr (some a0)), (1, .inl a1), (2, .inl a2), (3, .inl x195)] [] h := by
        intro x195 lx195 ux195 hn2
        refine tw_iinc (pc := 47) dX7_egress_47 (.tail _ (.tail _ (.tail _ (.head _)))) (by decide) (by decide) (by omega) (fun x196 ex196 => ?_)
        show TT _ _ _ _ _ _ _ [(3, .inl x196), (0, .inr (some a0)), (1, .inl a1), (2, .inl a2)] _ _
        refine tt_goto (tgt := 2) (pc := 50) dX7_egress_50 (by decide) ?_
        refine tt_loc [(0, .inr (some a0)), (1, .inl a1), (2, .inl a2), (3, .inl x196)] (List.forall_mem_cons.mpr ⟨(.tail _ (.head _)), List.forall_mem_cons.mpr ⟨(.tail _ (.tail _ (.head _))), List.forall_mem_cons.mpr ⟨(.tail _ (.tail _ (.tail _ (.head _)))), List.forall_mem_cons.mpr ⟨(.head _), fun _ z => absurd z List.not_mem_nil⟩⟩⟩⟩) ?_
        exact ih2 x196 (by omega) (by omega) (by omega)
      refine tt_iload_n (pc := 2) dX7_egress_2 (.tail _ (.tail _ (.tail _ (.head _)))) ?_
      refine tt_aload_n (pc := 3) dX7_egress_3 (.head _) ?_
      refine tw_geti (pc := 4) dX7_egress_4 flX7_92 hw ta0 (by decide) rfl (fun f197 x198 ef197 gf197 lx198 ux198 => ?_)
      refine tw_icmp (tgt := 53) (pc := 7) dX7_egress_7 (by decide) (fun (c199 : x198.toInt ≤ x194.toInt) => ?_) (fun (c199 : ¬ (x198.toInt ≤ x194.toInt)) => ?_)
      · skip
        refine tw_iconst (pc := 53) dX7_egress_53 (by decide) (fun x200 ex200 => ?_)
        refine tt_stop ?_
        rw [hQ]
        exact Or.inr (Or.inl ⟨x200, dX7_egress_54, rfl, Or.inl rfl, rfl, x200, rfl, by omega, by omega⟩)
      · skip
        refine tt_aload_n (pc := 10) dX7_egress_10 (.head _) ?_
        refine tw_getr (pc := 11) dX7_egress_11 flX7_35 hw ta0 (by decide) rfl (fun f201 q202 ef201 gf201 tq202 => ?_)
        refine tw_bipush (pc := 14) dX7_egress_14 (by decide) (fun x203 ex203 => ?_)
        refine tt_iload_n (pc := 16) dX7_egress_16 (.tail _ (.head _)) ?_
        refine tw_imul (c := 8) (pc := 17) dX7_egress_17 (by omega) (by omega) (fun x204 ex204 => ?_)
        refine tt_iload_n (pc := 18) dX7_egress_18 (.tail _ (.tail _ (.tail _ (.head _)))) ?_
        refine tw_iadd (pc := 19) dX7_egress_19 (by omega) (fun x205 ex205 => ?_)
        refine tw_ild (pc := 20) dX7_egress_20 hw tq202 rfl (by omega) (by omega) (fun f207 x206 ef207 gf207 lx206 ux206 => ?_)
        refine tt_iload_n (pc := 21) dX7_egress_21 (.tail _ (.tail _ (.head _))) ?_
        refine tt_ishr (pc := 22) dX7_egress_22 ?_
        refine tw_any (fun x208 => ?_)
        have bx208 := i_ty x208
        refine tw_iconst (pc := 23) dX7_egress_23 (by decide) (fun x209 ex209 => ?_)
        refine tt_iand (pc := 24) dX7_egress_24 ?_
        refine tw_any (fun x210 => ?_)
        have bx210 := i_ty x210
        refine tw_iconst (pc := 25) dX7_egress_25 (by decide) (fun x211 ex211 => ?_)
        refine tw_icmp (tgt := 47) (pc := 26) dX7_egress_26 (by decide) (fun (c212 : x210.toInt ≠ x211.toInt) => ?_) (fun (c212 : ¬ (x210.toInt ≠ x211.toInt)) => ?_)
        · skip
          refine tt_loc [(0, .inr (some a0)), (1, .inl a1), (2, .inl a2), (3, .inl x194)] (List.forall_mem_cons.mpr ⟨(.head _), List.forall_mem_cons.mpr ⟨(.tail _ (.head _)), List.forall_mem_cons.mpr ⟨(.tail _ (.tail _ (.head _))), List.forall_mem_cons.mpr ⟨(.tail _ (.tail _ (.tail _ (.head _)))), fun _ z => absurd z List.not_mem_nil⟩⟩⟩⟩) ?_
          exact B47 x194 (by omega) (by omega) (by omega)
        · skip
          refine tt_aload_n (pc := 29) dX7_egress_29 (.head _) ?_
          refine tw_getr (pc := 30) dX7_egress_30 flX7_89 hw ta0 (by decide) rfl (fun f213 q214 ef213 gf213 tq214 => ?_)
          refine tw_bipush (pc := 33) dX7_egress_33 (by decide) (fun x215 ex215 => ?_)
          refine tt_iload_n (pc := 35) dX7_egress_35 (.tail _ (.head _)) ?_
          refine tw_imul (c := 8) (pc := 36) dX7_egress_36 (by omega) (by omega) (fun x216 ex216 => ?_)
          refine tt_iload_n (pc := 37) dX7_egress_37 (.tail _ (.tail _ (.tail _ (.head _)))) ?_
          refine tw_iadd (pc := 38) dX7_egress_38 (by omega) (fun x217 ex217 => ?_)
          refine tw_ild (pc := 39) dX7_egress_39 hw tq214 rfl (by omega) (by omega) (fun f219 x218 ef219 gf219 lx218 ux218 => ?_)
          refine tw_ldc (n := 1000000) (pc := 40) dX7_egress_40 rfl kcX7_124 (by decide) (fun x220 ex220 => ?_)
          refine tw_icmp (tgt := 47) (pc := 42) dX7_egress_42 (by decide) (fun (c221 : x220.toInt ≤ x218.toInt) => ?_) (fun (c221 : ¬ (x220.toInt ≤ x218.toInt)) => ?_)
          · skip
            refine tt_loc [(0, .inr (some a0)), (1, .inl a1), (2, .inl a2), (3, .inl x194)] (List.forall_mem_cons.mpr ⟨(.head _), List.forall_mem_cons.mpr ⟨(.tail _ (.head _)), List.forall_mem_cons.mpr ⟨(.tail _ (.tail _ (.head _))), List.forall_mem_cons.mpr ⟨(.tail _ (.tail _ (.tail _ (.head _)))), fun _ z => absurd z List.not_mem_nil⟩⟩⟩⟩) ?_
            exact B47 x194 (by omega) (by omega) (by omega)
          · skip
            refine tt_iload_n (pc := 45) dX7_egress_45 (.tail _ (.tail _ (.tail _ (.head _)))) ?_
            refine tt_stop ?_
            rw [hQ]
            exact Or.inr (Or.inl ⟨x194, dX7_egress_46, rfl, Or.inl rfl, rfl, x194, rfl, by omega, by omega⟩)
  have ba2 := i_ty a2
  refine tw_iconst (pc := 0) dX7_egress_0 (by decide) (fun x222 ex222 => ?_)
  refine tt_istore_n (pc := 1) dX7_egress_1 (by decide) ?_
  show TT _ _ _ _ _ _ _ [(3, .inl x222), (0, .inr (some a0)), (1, .inl a1), (2, .inl a2)] _ _
  refine tt_loc [(0, .inr (some a0)), (1, .inl a1), (2, .inl a2), (3, .inl x222)] (List.forall_mem_cons.mpr ⟨(.tail _ (.head _)), List.forall_mem_cons.mpr ⟨(.tail _ (.tail _ (.head _))), List.forall_mem_cons.mpr ⟨(.tail _ (.tail _ (.tail _ (.head _)))), List.forall_mem_cons.mpr ⟨(.head _), fun _ z => absurd z List.not_mem_nil⟩⟩⟩⟩) ?_
  exact B2 9 x222 (by omega) (by omega) (by omega)
abbrev mX7_slot : tM := (RX7, cX7_slot, 4, 0, 0, false)
set_option maxHeartbeats 4000000 in
theorem g_X7_slot {l : Launch} {D : va_G} {N : Nat} {pk : Int} {τ : List Nat} (hN2 : 2 ≤ N) (hN8 : N ≤ 8) (hp0 : 0 ≤ pk) (hp64 : pk ≤ 64) {h : List tC} (hw : WT N pk τ h) (a0 : Nat) (ta0 : τ[a0]? = some 7) (a1 : Int32) (la1 : 0 ≤ a1.toInt) (ua1 : a1.toInt ≤ 7) (a2 : Int32) (la2 : 0 ≤ a2.toInt) (ua2 : a2.toInt ≤ 7) (a3 : Int32) (la3 : 0 ≤ a3.toInt) (ua3 : a3.toInt ≤ 11) : TMc l D yX7_slot cX7_slot 4 (some .int) 0 0 0 0 [.inr (some a0), .inl a1, .inl a2, .inl a3] h (fun rv h' => h = h' ∧ ∃ x : Int32, rv = some (.inl x) ∧ 0 ≤ x.toInt ∧ x.toInt ≤ 767) := by
  refine tmc_of false rfl (by decide) (Nat.le_of_ble_eq_true rfl) ?_
  suffices HQ : ∀ Q0, Q0 = tRt cX7_slot (some .int) (fun rv h' => h = h' ∧ ∃ x : Int32, rv = some (.inl x) ∧ 0 ≤ x.toInt ∧ x.toInt ≤ 767) → TT l D mX7_slot Q0 0 0 0 [(0, .inr (some a0)), (1, .inl a1), (2, .inl a2), (3, .inl a3)] [] h from HQ _ rfl
  intro Q0 hQ
  refine tw_bipush (pc := 0) dX7_slot_0 (by decide) (fun x7 ex7 => ?_)
  refine tw_bipush (pc := 2) dX7_slot_2 (by decide) (fun x8 ex8 => ?_)
  refine tt_iload_n (pc := 4) dX7_slot_4 (.tail _ (.head _)) ?_
  refine tw_imul (c := 8) (pc := 5) dX7_slot_5 (by omega) (by omega) (fun x9 ex9 => ?_)
  refine tt_iload_n (pc := 6) dX7_slot_6 (.tail _ (.tail _ (.head _))) ?_
  refine tw_iadd (pc := 7) dX7_slot_7 (by omega) (fun x10 ex10 => ?_)
  refine tw_imul (c := 12) (pc := 8) dX7_slot_8 (by omega) (by omega) (fun x11 ex11 => ?_)
  refine tt_iload_n (pc := 9) dX7_slot_9 (.tail _ (.tail _ (.tail _ (.head _)))) ?_
  refine tw_iadd (pc := 10) dX7_slot_10 (by omega) (fun x12 ex12 => ?_)
  refine tt_stop ?_
  rw [hQ]
  exact Or.inr (Or.inl ⟨x12, dX7_slot_11, rfl, Or.inl rfl, rfl, x12, rfl, by omega, by omega⟩)
abbrev mX7_settle : tM := (RX7, cX7_settle, 4, 0, 0, false)
set_option maxHeartbeats 4000000 in
theorem g_X7_settle {l : Launch} {D : va_G} {N : Nat} {pk : Int} {τ : List Nat} (hN2 : 2 ≤ N) (hN8 : N ≤ 8) (hp0 : 0 ≤ pk) (hp64 : pk ≤ 64) {h : List tC} (hw : WT N pk τ h) (a0 : Nat) (ta0 : τ[a0]? = some 7) (a1 : Int32) (la1 : 0 ≤ a1.toInt) (ua1 : a1.toInt ≤ 7) (a2 : Int32) (la2 : 0 ≤ a2.toInt) (ua2 : a2.toInt ≤ 63) : TMc l D yX7_settle cX7_settle 4 none 0 0 0 0 [.inr (some a0), .inl a1, .inl a2] h (fun rv h' => WT N pk τ h' ∧ Fr PMk τ h h' ∧ rv = none) := by
  refine tmc_of false rfl (by decide) (Nat.le_of_ble_eq_true rfl) ?_
  suffices HQ : ∀ Q0, Q0 = tRt cX7_settle none (fun rv h' => WT N pk τ h' ∧ Fr PMk τ h h' ∧ rv = none) → TT l D mX7_settle Q0 0 0 0 [(0, .inr (some a0)), (1, .inl a1), (2, .inl a2)] [] h from HQ _ rfl
  intro Q0 hQ
  have hf : Fr PMk τ h h := Fr.rf
  have B57 : ∀ (hb : List tC) (hwb : WT N pk τ hb) (hfb : Fr PMk τ h hb), TT l D mX7_settle Q0 0 0 57 [] [] hb := by
    intro hb hwb hfb
    refine tt_stop ?_
    rw [hQ]
    exact Or.inl ⟨dX7_settle_57, rfl, rfl, hwb, hfb, rfl⟩
  refine tw_bipush (pc := 0) dX7_settle_0 (by decide) (fun x29 ex29 => ?_)
  refine tt_iload_n (pc := 2) dX7_settle_2 (.tail _ (.head _)) ?_
  refine tw_imul (c := 64) (pc := 3) dX7_settle_3 (by omega) (by omega) (fun x30 ex30 => ?_)
  refine tt_iload_n (pc := 4) dX7_settle_4 (.tail _ (.tail _ (.head _))) ?_
  refine tw_iadd (pc := 5) dX7_settle_5 (by omega) (fun x31 ex31 => ?_)
  refine tt_istore_n (pc := 6) dX7_settle_6 (by decide) ?_
  show TT _ _ _ _ _ _ _ [(3, .inl x31), (0, .inr (some a0)), (1, .inl a1), (2, .inl a2)] _ _
  refine tt_aload_n (pc := 7) dX7_settle_7 (.tail _ (.head _)) ?_
  refine tw_getr (pc := 8) dX7_settle_8 flX7_68 hw ta0 (by decide) rfl (fun f32 q33 ef32 gf32 tq33 => ?_)
  refine tt_iload_n (pc := 11) dX7_settle_11 (.head _) ?_
  refine tw_ild (pc := 12) dX7_settle_12 hw tq33 rfl (by omega) (by omega) (fun f35 x34 ef35 gf35 lx34 ux34 => ?_)
  refine tw_if (tgt := 57) (pc := 13) dX7_settle_13 (by decide) (fun (c36 : x34.toInt ≤ 0) => ?_) (fun (c36 : ¬ (x34.toInt ≤ 0)) => ?_)
  · skip
    refine tt_loc [] (fun _ z => absurd z List.not_mem_nil) ?_
    exact B57 h hw hf
  · skip
    refine tt_aload_n (pc := 16) dX7_settle_16 (.tail _ (.head _)) ?_
    refine tw_getr (pc := 17) dX7_settle_17 flX7_71 hw ta0 (by decide) rfl (fun f37 q38 ef37 gf37 tq38 => ?_)
    refine tt_iload_n (pc := 20) dX7_settle_20 (.head _) ?_
    refine tw_ild (pc := 21) dX7_settle_21 hw tq38 rfl (by omega) (by omega) (fun f40 x39 ef40 gf40 lx39 ux39 => ?_)
    refine tw_if (tgt := 57) (pc := 22) dX7_settle_22 (by decide) (fun (c41 : x39.toInt ≠ 0) => ?_) (fun (c41 : ¬ (x39.toInt ≠ 0)) => ?_)
    · skip
      refine tt_loc [] (fun _ z => absurd z List.not_mem_nil) ?_
      exact B57 h hw hf
    · skip
      refine tt_aload_n (pc := 25) dX7_settle_25 (.tail _ (.head _)) ?_
      refine tw_getr (pc := 26) dX7_settle_26 flX7_62 hw ta0 (by decide) rfl (fun f42 q43 ef42 gf42 tq43 => ?_)
      refine tw_bipush (pc := 29) dX7_settle_29 (by decide) (fun x44 ex44 => ?_)
      refine tt_iload_n (pc := 31) dX7_settle_31 (.tail _ (.tail _ (.head _))) ?_
      refine tw_imul (c := 8) (pc := 32) dX7_settle_32 (by omega) (by omega) (fun x45 ex45 => ?_)
      refine tt_aload_n (pc := 33) dX7_settle_33 (.tail _ (.head _)) ?_
      refine tt_get (pc := 34) dX7_settle_34 flX7_68 ef32 gf32 ?_
      refine tt_iload_n (pc := 37) dX7_settle_37 (.head _) ?_
      refine tt_iald (pc := 38) dX7_settle_38 ef35 (i_nn (by omega)) gf35 ?_
      refine tw_iadd (pc := 39) dX7_settle_39 (by omega) (fun x46 ex46 => ?_)
      refine tw_iconst (pc := 40) dX7_settle_40 (by decide) (fun x47 ex47 => ?_)
      refine tw_isub (pc := 41) dX7_settle_41 (by omega) (fun x48 ex48 => ?_)
      refine tw_ild (pc := 42) dX7_settle_42 hw tq43 rfl (by omega) (by omega) (fun f50 x49 ef50 gf50 lx49 ux49 => ?_)
      refine tw_bipush (pc := 43) dX7_settle_43 (by decide) (fun x51 ex51 => ?_)
      refine tt_iload_n (pc := 45) dX7_settle_45 (.tail _ (.tail _ (.tail _ (.head _)))) ?_
      refine tw_iadd (pc := 46) dX7_settle_46 (by omega) (fun x52 ex52 => ?_)
      refine tw_icmp (tgt := 57) (pc := 47) dX7_settle_47 (by decide) (fun (c53 : x49.toInt = x52.toInt) => ?_) (fun (c53 : ¬ (x49.toInt = x52.toInt)) => ?_)
      · skip
        refine tt_loc [] (fun _ z => absurd z List.not_mem_nil) ?_
        exact B57 h hw hf
      · skip
        refine tt_aload_n (pc := 50) dX7_settle_50 (.tail _ (.head _)) ?_
        refine tt_get (pc := 51) dX7_settle_51 flX7_68 ef32 gf32 ?_
        refine tt_iload_n (pc := 54) dX7_settle_54 (.head _) ?_
        refine tw_iconst (pc := 55) dX7_settle_55 (by decide) (fun x54 ex54 => ?_)
        refine tw_ist (P := PMk) (pc := 56) dX7_settle_56 hw tq33 rfl (by omega) (by omega) (by omega) (by omega) (by decide) (fun f55 h56 eh56 gh56 kh56 wh56 fh56 => ?_)
        have hfh56 := hf.tr fh56
        refine tt_loc [] (fun _ z => absurd z List.not_mem_nil) ?_
        exact B57 h56 wh56 hfh56
abbrev mX7_free : tM := (RX7, cX7_free, 3, 0, 0, false)
set_option maxHeartbeats 4000000 in
theorem g_X7_free {l : Launch} {D : va_G} {N : Nat} {pk : Int} {τ : List Nat} (hN2 : 2 ≤ N) (hN8 : N ≤ 8) (hp0 : 0 ≤ pk) (hp64 : pk ≤ 64) {h : List tC} (hw : WT N pk τ h) (a0 : Nat) (ta0 : τ[a0]? = some 7) (a1 : Int32) (la1 : 0 ≤ a1.toInt) (ua1 : a1.toInt ≤ 7) : TMc l D yX7_free cX7_free 3 (some .int) 0 0 0 0 [.inr (some a0), .inl a1] h (fun rv h' => h = h' ∧ ∃ x : Int32, rv = some (.inl x) ∧ -1 ≤ x.toInt ∧ x.toInt ≤ 63) := by
  refine tmc_of false rfl (by decide) (Nat.le_of_ble_eq_true rfl) ?_
  suffices HQ : ∀ Q0, Q0 = tRt cX7_free (some .int) (fun rv h' => h = h' ∧ ∃ x : Int32, rv = some (.inl x) ∧ -1 ≤ x.toInt ∧ x.toInt ≤ 63) → TT l D mX7_free Q0 0 0 0 [(0, .inr (some a0)), (1, .inl a1)] [] h from HQ _ rfl
  intro Q0 hQ
  have B2 : ∀ (n2 : Nat) (x195 : Int32) (lx195 : 0 ≤ x195.toInt) (ux195 : x195.toInt ≤ 64), 64 - x195.toInt < n2 → TT l D mX7_free Q0 0 0 2 [(0, .inr (some a0)), (1, .inl a1), (2, .inl x195)] [] h := by
    intro n2
    induction n2 with
    | zero =>
      intro x195 lx195 ux195 hn2
      exfalso
      omega
    | succ n2 ih2 =>
      intro x195 lx195 ux195 hn2
      refine tt_iload_n (pc := 2) dX7_free_2 (.tail _ (.tail _ (.head _))) ?_
      refine tw_bipush (pc := 3) dX7_free_3 (by decide) (fun x196 ex196 => ?_)
      refine tw_icmp (tgt := 30) (pc := 5) dX7_free_5 (by decide) (fun (c197 : x196.toInt ≤ x195.toInt) => ?_) (fun (c197 : ¬ (x196.toInt ≤ x195.toInt)) => ?_)
      · skip
        refine tw_iconst (pc := 30) dX7_free_30 (by decide) (fun x198 ex198 => ?_)
        refine tt_stop ?_
        rw [hQ]
        exact Or.inr (Or.inl ⟨x198, dX7_free_31, rfl, Or.inl rfl, rfl, x198, rfl, by omega, by omega⟩)
      · skip
        refine tt_aload_n (pc := 8) dX7_free_8 (.head _) ?_
        refine tw_getr (pc := 9) dX7_free_9 flX7_68 hw ta0 (by decide) rfl (fun f199 q200 ef199 gf199 tq200 => ?_)
        refine tw_bipush (pc := 12) dX7_free_12 (by decide) (fun x201 ex201 => ?_)
        refine tt_iload_n (pc := 14) dX7_free_14 (.tail _ (.head _)) ?_
        refine tw_imul (c := 64) (pc := 15) dX7_free_15 (by omega) (by omega) (fun x202 ex202 => ?_)
        refine tt_iload_n (pc := 16) dX7_free_16 (.tail _ (.tail _ (.head _))) ?_
        refine tw_iadd (pc := 17) dX7_free_17 (by omega) (fun x203 ex203 => ?_)
        refine tw_ild (pc := 18) dX7_free_18 hw tq200 rfl (by omega) (by omega) (fun f205 x204 ef205 gf205 lx204 ux204 => ?_)
        refine tw_if (tgt := 24) (pc := 19) dX7_free_19 (by decide) (fun (c206 : x204.toInt ≠ 0) => ?_) (fun (c206 : ¬ (x204.toInt ≠ 0)) => ?_)
        · skip
          refine tw_iinc (pc := 24) dX7_free_24 (.tail _ (.tail _ (.head _))) (by decide) (by decide) (by omega) (fun x207 ex207 => ?_)
          show TT _ _ _ _ _ _ _ [(2, .inl x207), (0, .inr (some a0)), (1, .inl a1)] _ _
          refine tt_goto (tgt := 2) (pc := 27) dX7_free_27 (by decide) ?_
          refine tt_loc [(0, .inr (some a0)), (1, .inl a1), (2, .inl x207)] (List.forall_mem_cons.mpr ⟨(.tail _ (.head _)), List.forall_mem_cons.mpr ⟨(.tail _ (.tail _ (.head _))), List.forall_mem_cons.mpr ⟨(.head _), fun _ z => absurd z List.not_mem_nil⟩⟩⟩) ?_
          exact ih2 x207 (by omega) (by omega) (by omega)
        · skip
          refine tt_iload_n (pc := 22) dX7_free_22 (.tail _ (.tail _ (.head _))) ?_
          refine tt_stop ?_
          rw [hQ]
          exact Or.inr (Or.inl ⟨x195, dX7_free_23, rfl, Or.inl rfl, rfl, x195, rfl, by omega, by omega⟩)
  refine tw_iconst (pc := 0) dX7_free_0 (by decide) (fun x208 ex208 => ?_)
  refine tt_istore_n (pc := 1) dX7_free_1 (by decide) ?_
  show TT _ _ _ _ _ _ _ [(2, .inl x208), (0, .inr (some a0)), (1, .inl a1)] _ _
  refine tt_loc [(0, .inr (some a0)), (1, .inl a1), (2, .inl x208)] (List.forall_mem_cons.mpr ⟨(.tail _ (.head _)), List.forall_mem_cons.mpr ⟨(.tail _ (.tail _ (.head _))), List.forall_mem_cons.mpr ⟨(.head _), fun _ z => absurd z List.not_mem_nil⟩⟩⟩) ?_
  exact B2 65 x208 (by omega) (by omega) (by omega)
abbrev mX7_byHop : tM := (RX7, cX7_byHop, 5, 2, 45, false)
set_option maxHeartbeats 4000000 in
theorem g_X7_byHop {l : Launch} {D : va_G} {N : Nat} {pk : Int} {τ : List Nat} (hN2 : 2 ≤ N) (hN8 : N ≤ 8) (hp0 : 0 ≤ pk) (hp64 : pk ≤ 64) {h : List tC} (hw : WT N pk τ h) (a0 : Nat) (ta0 : τ[a0]? = some 7) (a1 : Int32) (la1 : 0 ≤ a1.toInt) (ua1 : a1.toInt ≤ 7) (a2 : Int32) (la2 : 0 ≤ a2.toInt) (ua2 : a2.toInt ≤ 7) : TMc l D yX7_byHop cX7_byHop 5 (some .int) 2 45 0 0 [.inr (some a0), .inl a1, .inl a2] h (fun rv h' => h = h' ∧ ∃ x : Int32, rv = some (.inl x) ∧ -1 ≤ x.toInt ∧ x.toInt ≤ 767) := by
  refine tmc_of false rfl (by decide) (Nat.le_of_ble_eq_true rfl) ?_
  suffices HQ : ∀ Q0, Q0 = tRt cX7_byHop (some .int) (fun rv h' => h = h' ∧ ∃ x : Int32, rv = some (.inl x) ∧ -1 ≤ x.toInt ∧ x.toInt ≤ 767) → TT l D mX7_byHop Q0 0 0 0 [(0, .inr (some a0)), (1, .inl a1), (2, .inl a2)] [] h from HQ _ rfl
  intro Q0 hQ
  have B47 : TT l D mX7_byHop Q0 0 0 47 [] [] h := by
    refine tw_iconst (pc := 47) dX7_byHop_47 (by decide) (fun x23 ex23 => ?_)
    refine tt_goto (tgt := 59) (pc := 48) dX7_byHop_48 (by decide) ?_
    refine tt_stop ?_
    rw [hQ]
    exact Or.inr (Or.inl ⟨x23, dX7_byHop_59, rfl, Or.inl rfl, rfl, x23, rfl, by omega, by omega⟩)
  refine tt_aload_n (pc := 0) dX7_byHop_0 (.head _) ?_
  refine tt_iload_n (pc := 1) dX7_byHop_1 (.tail _ (.head _)) ?_
  refine tt_iload_n (pc := 2) dX7_byHop_2 (.tail _ (.tail _ (.head _))) ?_
  refine tw_callV (kc := 0) (ks := 0) (mc := 0) (ms := 0) (as := [.inl a1, .inl a2]) (st := []) (pc := 3) hw ta0 (by decide) dX7_byHop_3 lkX7_139 imX7_egress seX7_egress rfl rfl (by decide) (by decide) (Nat.le_of_ble_eq_true rfl) (g_X7_egress hN2 hN8 hp0 hp64 hw a0 ta0 a1 (by omega) (by omega) a2) (fun rv h24 qh24 => ?_)
  obtain ⟨rfl, x25, rfl, lx25, ux25⟩ := qh24
  show TT _ _ _ _ _ _ _ _ [.inl x25] _
  refine tt_istore_n (pc := 6) dX7_byHop_6 (by decide) ?_
  show TT _ _ _ _ _ _ _ [(3, .inl x25), (0, .inr (some a0)), (1, .inl a1), (2, .inl a2)] _ _
  refine tt_iload_n (pc := 7) dX7_byHop_7 (.head _) ?_
  refine tw_iconst (pc := 8) dX7_byHop_8 (by decide) (fun x26 ex26 => ?_)
  refine tw_icmp (tgt := 16) (pc := 9) dX7_byHop_9 (by decide) (fun (c27 : x25.toInt ≠ x26.toInt) => ?_) (fun (c27 : ¬ (x25.toInt ≠ x26.toInt)) => ?_)
  · skip
    refine tt_aload_n (pc := 16) dX7_byHop_16 (.tail _ (.head _)) ?_
    refine tt_iload_n (pc := 17) dX7_byHop_17 (.tail _ (.tail _ (.head _))) ?_
    refine tt_iload_n (pc := 18) dX7_byHop_18 (.head _) ?_
    refine tw_callV (kc := 0) (ks := 0) (mc := 0) (ms := 0) (as := [.inl a1, .inl x25]) (st := []) (pc := 19) hw ta0 (by decide) dX7_byHop_19 lkX7_142 imX7_hop seX7_hop rfl rfl (by decide) (by decide) (Nat.le_of_ble_eq_true rfl) (g_X7_hop hN2 hN8 hp0 hp64 hw a0 ta0 a1 (by omega) (by omega) x25 (by omega) (by omega)) (fun rv h28 qh28 => ?_)
    obtain ⟨rfl, x29, rfl, lx29, ux29⟩ := qh28
    show TT _ _ _ _ _ _ _ _ [.inl x29] _
    refine tt_istore (pc := 22) dX7_byHop_22 (by decide) ?_
    show TT _ _ _ _ _ _ _ [(4, .inl x29), (3, .inl x25), (0, .inr (some a0)), (1, .inl a1), (2, .inl a2)] _ _
    refine tt_iload (pc := 24) dX7_byHop_24 (.head _) ?_
    refine tw_iconst (pc := 26) dX7_byHop_26 (by decide) (fun x30 ex30 => ?_)
    refine tw_icmp (tgt := 47) (pc := 27) dX7_byHop_27 (by decide) (fun (c31 : x29.toInt = x30.toInt) => ?_) (fun (c31 : ¬ (x29.toInt = x30.toInt)) => ?_)
    · skip
      refine tt_loc [] (fun _ z => absurd z List.not_mem_nil) ?_
      exact B47 
    · skip
      refine tt_aload_n (pc := 30) dX7_byHop_30 (.tail _ (.tail _ (.head _))) ?_
      refine tw_getr (pc := 31) dX7_byHop_31 flX7_56 hw ta0 (by decide) rfl (fun f32 q33 ef32 gf32 tq33 => ?_)
      refine tt_aload_n (pc := 34) dX7_byHop_34 (.tail _ (.tail _ (.head _))) ?_
      refine tt_iload_n (pc := 35) dX7_byHop_35 (.tail _ (.tail _ (.tail _ (.head _)))) ?_
      refine tt_iload_n (pc := 36) dX7_byHop_36 (.tail _ (.tail _ (.tail _ (.tail _ (.head _))))) ?_
      refine tt_iload (pc := 37) dX7_byHop_37 (.head _) ?_
      refine tw_callV (kc := 0) (ks := 0) (mc := 0) (ms := 0) (as := [.inl a1, .inl a2, .inl x29]) (st := [.inr (some q33)]) (pc := 39) hw ta0 (by decide) dX7_byHop_39 lkX7_145 imX7_slot seX7_slot rfl rfl (by decide) (by decide) (Nat.le_of_ble_eq_true rfl) (g_X7_slot hN2 hN8 hp0 hp64 hw a0 ta0 a1 (by omega) (by omega) a2 (by omega) (by omega) x29 (by omega) (by omega)) (fun rv h34 qh34 => ?_)
      obtain ⟨rfl, x35, rfl, lx35, ux35⟩ := qh34
      show TT _ _ _ _ _ _ _ _ [.inl x35, .inr (some q33)] _
      refine tw_ild (pc := 42) dX7_byHop_42 hw tq33 rfl (by omega) (by omega) (fun f37 x36 ef37 gf37 lx36 ux36 => ?_)
      refine tw_iconst (pc := 43) dX7_byHop_43 (by decide) (fun x38 ex38 => ?_)
      refine tw_icmp (tgt := 51) (pc := 44) dX7_byHop_44 (by decide) (fun (c39 : x36.toInt ≠ x38.toInt) => ?_) (fun (c39 : ¬ (x36.toInt ≠ x38.toInt)) => ?_)
      · skip
        refine tt_aload_n (pc := 51) dX7_byHop_51 (.tail _ (.tail _ (.head _))) ?_
        refine tt_iload_n (pc := 52) dX7_byHop_52 (.tail _ (.tail _ (.tail _ (.head _)))) ?_
        refine tt_iload_n (pc := 53) dX7_byHop_53 (.tail _ (.tail _ (.tail _ (.tail _ (.head _))))) ?_
        refine tt_iload (pc := 54) dX7_byHop_54 (.head _) ?_
        refine tw_callV (kc := 0) (ks := 0) (mc := 0) (ms := 0) (as := [.inl a1, .inl a2, .inl x29]) (st := []) (pc := 56) hw ta0 (by decide) dX7_byHop_56 lkX7_145 imX7_slot seX7_slot rfl rfl (by decide) (by decide) (Nat.le_of_ble_eq_true rfl) (g_X7_slot hN2 hN8 hp0 hp64 hw a0 ta0 a1 (by omega) (by omega) a2 (by omega) (by omega) x29 (by omega) (by omega)) (fun rv h40 qh40 => ?_)
        obtain ⟨rfl, x41, rfl, lx41, ux41⟩ := qh40
        show TT _ _ _ _ _ _ _ _ [.inl x41] _
        refine tt_stop ?_
        rw [hQ]
        exact Or.inr (Or.inl ⟨x41, dX7_byHop_59, rfl, Or.inl rfl, rfl, x41, rfl, by omega, by omega⟩)
      · skip
        refine tt_loc [] (fun _ z => absurd z List.not_mem_nil) ?_
        exact B47 
  · skip
    refine tw_iconst (pc := 12) dX7_byHop_12 (by decide) (fun x42 ex42 => ?_)
    refine tt_goto (tgt := 22) (pc := 13) dX7_byHop_13 (by decide) ?_
    refine tt_istore (pc := 22) dX7_byHop_22 (by decide) ?_
    show TT _ _ _ _ _ _ _ [(4, .inl x42), (3, .inl x25), (0, .inr (some a0)), (1, .inl a1), (2, .inl a2)] _ _
    refine tt_iload (pc := 24) dX7_byHop_24 (.head _) ?_
    refine tw_iconst (pc := 26) dX7_byHop_26 (by decide) (fun x43 ex43 => ?_)
    refine tw_icmp (tgt := 47) (pc := 27) dX7_byHop_27 (by decide) (fun (c44 : x42.toInt = x43.toInt) => ?_) (fun (c44 : ¬ (x42.toInt = x43.toInt)) => ?_)
    · skip
      refine tt_loc [] (fun _ z => absurd z List.not_mem_nil) ?_
      exact B47 
    · skip
      exfalso
      omega
abbrev mX7_empty : tM := (RX7, cX7_empty, 3, 0, 0, false)
set_option maxHeartbeats 4000000 in
theorem g_X7_empty {l : Launch} {D : va_G} {N : Nat} {pk : Int} {τ : List Nat} (hN2 : 2 ≤ N) (hN8 : N ≤ 8) (hp0 : 0 ≤ pk) (hp64 : pk ≤ 64) {h : List tC} (hw : WT N pk τ h) (a0 : Nat) (ta0 : τ[a0]? = some 7) (a1 : Int32) (la1 : 0 ≤ a1.toInt) (ua1 : a1.toInt ≤ 23) : TMc l D yX7_empty cX7_empty 3 none 0 0 0 0 [.inr (some a0), .inl a1] h (fun rv h' => WT N pk τ h' ∧ Fr PMk τ h h' ∧ rv = none) := by
  refine tmc_of false rfl (by decide) (Nat.le_of_ble_eq_true rfl) ?_
  suffices HQ : ∀ Q0, Q0 = tRt cX7_empty none (fun rv h' => WT N pk τ h' ∧ Fr PMk τ h h' ∧ rv = none) → TT l D mX7_empty Q0 0 0 0 [(0, .inr (some a0)), (1, .inl a1)] [] h from HQ _ rfl
  intro Q0 hQ
  have hf : Fr PMk τ h h := Fr.rf
  have B5 : ∀ (n5 : Nat) (hb : List tC) (hwb : WT N pk τ hb) (hfb : Fr PMk τ h hb) (x88 : Int32) (lx88 : 0 ≤ x88.toInt) (ux88 : x88.toInt ≤ 384), 384 - x88.toInt < n5 → TT l D mX7_empty Q0 0 0 5 [(0, .inr (some a0)), (1, .inl a1), (2, .inl x88)] [] hb := by
    intro n5
    induction n5 with
    | zero =>
      intro hb hwb hfb x88 lx88 ux88 hn5
      exfalso
      omega
    | succ n5 ih5 =>
      intro hb hwb hfb x88 lx88 ux88 hn5
      have B43 : ∀ (hb : List tC) (hwb : WT N pk τ hb) (hfb : Fr PMk τ h hb) (x89 : Int32) (lx89 : 0 ≤ x89.toInt) (ux89 : x89.toInt ≤ 383) (hn5 : 384 - x89.toInt < ((n5 + 1 : Nat) : Int)), TT l D mX7_empty Q0 0 0 43 [(0, .inr (some a0)), (1, .inl a1), (2, .inl x89)] [] hb := by
        intro hb hwb hfb x89 lx89 ux89 hn5
        refine tw_iinc (pc := 43) dX7_empty_43 (.tail _ (.tail _ (.head _))) (by decide) (by decide) (by omega) (fun x90 ex90 => ?_)
        show TT _ _ _ _ _ _ _ [(2, .inl x90), (0, .inr (some a0)), (1, .inl a1)] _ _
        refine tt_goto (tgt := 5) (pc := 46) dX7_empty_46 (by decide) ?_
        refine tt_loc [(0, .inr (some a0)), (1, .inl a1), (2, .inl x90)] (List.forall_mem_cons.mpr ⟨(.tail _ (.head _)), List.forall_mem_cons.mpr ⟨(.tail _ (.tail _ (.head _))), List.forall_mem_cons.mpr ⟨(.head _), fun _ z => absurd z List.not_mem_nil⟩⟩⟩) ?_
        exact ih5 hb hwb hfb x90 (by omega) (by omega) (by omega)
      refine tt_iload_n (pc := 5) dX7_empty_5 (.tail _ (.tail _ (.head _))) ?_
      refine tw_bipush (pc := 6) dX7_empty_6 (by decide) (fun x91 ex91 => ?_)
      refine tt_iload_n (pc := 8) dX7_empty_8 (.tail _ (.head _)) ?_
      refine tw_imul (c := 16) (pc := 9) dX7_empty_9 (by omega) (by omega) (fun x92 ex92 => ?_)
      refine tt_aload_n (pc := 10) dX7_empty_10 (.head _) ?_
      refine tw_getr (pc := 11) dX7_empty_11 flX7_38 hwb ta0 (by decide) rfl (fun f93 q94 ef93 gf93 tq94 => ?_)
      refine tt_iload_n (pc := 14) dX7_empty_14 (.tail _ (.head _)) ?_
      refine tw_ild (pc := 15) dX7_empty_15 hwb tq94 rfl (by omega) (by omega) (fun f96 x95 ef96 gf96 lx95 ux95 => ?_)
      refine tw_iadd (pc := 16) dX7_empty_16 (by omega) (fun x97 ex97 => ?_)
      refine tw_icmp (tgt := 49) (pc := 17) dX7_empty_17 (by decide) (fun (c98 : x97.toInt ≤ x88.toInt) => ?_) (fun (c98 : ¬ (x97.toInt ≤ x88.toInt)) => ?_)
      · skip
        refine tt_aload_n (pc := 49) dX7_empty_49 (.head _) ?_
        refine tt_get (pc := 50) dX7_empty_50 flX7_38 ef93 gf93 ?_
        refine tt_iload_n (pc := 53) dX7_empty_53 (.tail _ (.head _)) ?_
        refine tw_iconst (pc := 54) dX7_empty_54 (by decide) (fun x99 ex99 => ?_)
        refine tw_ist (P := PMk) (pc := 55) dX7_empty_55 hwb tq94 rfl (by omega) (by omega) (by omega) (by omega) (by decide) (fun f100 h101 eh101 gh101 kh101 wh101 fh101 => ?_)
        have hfh101 := hfb.tr fh101
        refine tt_stop ?_
        rw [hQ]
        exact Or.inl ⟨dX7_empty_56, rfl, rfl, wh101, hfh101, rfl⟩
      · skip
        refine tt_aload_n (pc := 20) dX7_empty_20 (.head _) ?_
        refine tw_getr (pc := 21) dX7_empty_21 flX7_41 hwb ta0 (by decide) rfl (fun f102 q103 ef102 gf102 tq103 => ?_)
        refine tt_iload_n (pc := 24) dX7_empty_24 (.tail _ (.tail _ (.head _))) ?_
        refine tw_ild (pc := 25) dX7_empty_25 hwb tq103 rfl (by omega) (by omega) (fun f105 x104 ef105 gf105 lx104 ux104 => ?_)
        refine tw_iconst (pc := 26) dX7_empty_26 (by decide) (fun x106 ex106 => ?_)
        refine tw_icmp (tgt := 43) (pc := 27) dX7_empty_27 (by decide) (fun (c107 : x104.toInt ≠ x106.toInt) => ?_) (fun (c107 : ¬ (x104.toInt ≠ x106.toInt)) => ?_)
        · skip
          refine tt_loc [(0, .inr (some a0)), (1, .inl a1), (2, .inl x88)] (List.forall_mem_cons.mpr ⟨(.head _), List.forall_mem_cons.mpr ⟨(.tail _ (.head _)), List.forall_mem_cons.mpr ⟨(.tail _ (.tail _ (.head _))), fun _ z => absurd z List.not_mem_nil⟩⟩⟩) ?_
          exact B43 hb hwb hfb x88 (by omega) (by omega) (by omega)
        · skip
          refine tt_aload_n (pc := 30) dX7_empty_30 (.head _) ?_
          refine tw_getr (pc := 31) dX7_empty_31 flX7_83 hwb ta0 (by decide) rfl (fun f108 q109 ef108 gf108 tq109 => ?_)
          refine tt_aload_n (pc := 34) dX7_empty_34 (.head _) ?_
          refine tw_getr (pc := 35) dX7_empty_35 flX7_44 hwb ta0 (by decide) rfl (fun f110 q111 ef110 gf110 tq111 => ?_)
          refine tt_iload_n (pc := 38) dX7_empty_38 (.tail _ (.tail _ (.head _))) ?_
          refine tw_ild (pc := 39) dX7_empty_39 hwb tq111 rfl (by omega) (by omega) (fun f113 x112 ef113 gf113 lx112 ux112 => ?_)
          refine tw_bipush (pc := 40) dX7_empty_40 (by decide) (fun x114 ex114 => ?_)
          refine tw_ist (P := PMk) (pc := 42) dX7_empty_42 hwb tq109 rfl (by omega) (by omega) (by omega) (by omega) (by decide) (fun f115 h116 eh116 gh116 kh116 wh116 fh116 => ?_)
          have hfh116 := hfb.tr fh116
          refine tt_loc [(0, .inr (some a0)), (1, .inl a1), (2, .inl x88)] (List.forall_mem_cons.mpr ⟨(.head _), List.forall_mem_cons.mpr ⟨(.tail _ (.head _)), List.forall_mem_cons.mpr ⟨(.tail _ (.tail _ (.head _))), fun _ z => absurd z List.not_mem_nil⟩⟩⟩) ?_
          exact B43 h116 wh116 hfh116 x88 (by omega) (by omega) (by omega)
  refine tw_bipush (pc := 0) dX7_empty_0 (by decide) (fun x117 ex117 => ?_)
  refine tt_iload_n (pc := 2) dX7_empty_2 (.tail _ (.head _)) ?_
  refine tw_imul (c := 16) (pc := 3) dX7_empty_3 (by omega) (by omega) (fun x118 ex118 => ?_)
  refine tt_istore_n (pc := 4) dX7_empty_4 (by decide) ?_
  show TT _ _ _ _ _ _ _ [(2, .inl x118), (0, .inr (some a0)), (1, .inl a1)] _ _
  refine tt_loc [(0, .inr (some a0)), (1, .inl a1), (2, .inl x118)] (List.forall_mem_cons.mpr ⟨(.tail _ (.head _)), List.forall_mem_cons.mpr ⟨(.tail _ (.tail _ (.head _))), List.forall_mem_cons.mpr ⟨(.head _), fun _ z => absurd z List.not_mem_nil⟩⟩⟩) ?_
  exact B5 385 h hw hf x118 (by omega) (by omega) (by omega)
abbrev mX7_sever : tM := (RX7, cX7_sever, 4, 1, 23, false)
set_option maxHeartbeats 4000000 in
theorem g_X7_sever {l : Launch} {D : va_G} {N : Nat} {pk : Int} {τ : List Nat} (hN2 : 2 ≤ N) (hN8 : N ≤ 8) (hp0 : 0 ≤ pk) (hp64 : pk ≤ 64) {h : List tC} (hw : WT N pk τ h) (a0 : Nat) (ta0 : τ[a0]? = some 7) (a1 : Int32) (la1 : 0 ≤ a1.toInt) (ua1 : a1.toInt ≤ 7) (a2 : Int32) (la2 : 0 ≤ a2.toInt) (ua2 : a2.toInt ≤ 11) : TMc l D yX7_sever cX7_sever 4 none 1 23 0 0 [.inr (some a0), .inl a1, .inl a2] h (fun rv h' => WT N pk τ h' ∧ Fr PMk τ h h' ∧ rv = none) := by
  refine tmc_of false rfl (by decide) (Nat.le_of_ble_eq_true rfl) ?_
  suffices HQ : ∀ Q0, Q0 = tRt cX7_sever none (fun rv h' => WT N pk τ h' ∧ Fr PMk τ h h' ∧ rv = none) → TT l D mX7_sever Q0 0 0 0 [(0, .inr (some a0)), (1, .inl a1), (2, .inl a2)] [] h from HQ _ rfl
  intro Q0 hQ
  have hf : Fr PMk τ h h := Fr.rf
  have B29 : ∀ (n29 : Nat) (hb : List tC) (hwb : WT N pk τ hb) (hfb : Fr PMk τ h hb) (x384 : Int32) (lx384 : 0 ≤ x384.toInt) (ux384 : x384.toInt ≤ 64), 64 - x384.toInt < n29 → TT l D mX7_sever Q0 0 0 29 [(0, .inr (some a0)), (1, .inl a1), (2, .inl a2), (3, .inl x384)] [] hb := by
    intro n29
    induction n29 with
    | zero =>
      intro hb hwb hfb x384 lx384 ux384 hn29
      exfalso
      omega
    | succ n29 ih29 =>
      intro hb hwb hfb x384 lx384 ux384 hn29
      refine tt_iload_n (pc := 29) dX7_sever_29 (.tail _ (.tail _ (.tail _ (.head _)))) ?_
      refine tw_bipush (pc := 30) dX7_sever_30 (by decide) (fun x385 ex385 => ?_)
      refine tw_icmp (tgt := 66) (pc := 32) dX7_sever_32 (by decide) (fun (c386 : x385.toInt ≤ x384.toInt) => ?_) (fun (c386 : ¬ (x385.toInt ≤ x384.toInt)) => ?_)
      · skip
        refine tt_stop ?_
        rw [hQ]
        exact Or.inl ⟨dX7_sever_66, rfl, rfl, hwb, hfb, rfl⟩
      · skip
        refine tt_aload_n (pc := 35) dX7_sever_35 (.head _) ?_
        refine tw_getr (pc := 36) dX7_sever_36 flX7_71 hwb ta0 (by decide) rfl (fun f387 q388 ef387 gf387 tq388 => ?_)
        refine tw_bipush (pc := 39) dX7_sever_39 (by decide) (fun x389 ex389 => ?_)
        refine tt_iload_n (pc := 41) dX7_sever_41 (.tail _ (.head _)) ?_
        refine tw_imul (c := 64) (pc := 42) dX7_sever_42 (by omega) (by omega) (fun x390 ex390 => ?_)
        refine tt_iload_n (pc := 43) dX7_sever_43 (.tail _ (.tail _ (.tail _ (.head _)))) ?_
        refine tw_iadd (pc := 44) dX7_sever_44 (by omega) (fun x391 ex391 => ?_)
        refine tt_dup2 (pc := 45) dX7_sever_45 ?_
        refine tw_ild (pc := 46) dX7_sever_46 hwb tq388 rfl (by omega) (by omega) (fun f393 x392 ef393 gf393 lx392 ux392 => ?_)
        refine tw_iconst (pc := 47) dX7_sever_47 (by decide) (fun x394 ex394 => ?_)
        refine tt_iload_n (pc := 48) dX7_sever_48 (.tail _ (.tail _ (.head _))) ?_
        refine tt_ishl (pc := 49) dX7_sever_49 ?_
        refine tw_any (fun x395 => ?_)
        have bx395 := i_ty x395
        refine tw_iconst (pc := 50) dX7_sever_50 (by decide) (fun x396 ex396 => ?_)
        refine tt_ixor (pc := 51) dX7_sever_51 ?_
        refine tw_any (fun x397 => ?_)
        have bx397 := i_ty x397
        refine tt_iand (pc := 52) dX7_sever_52 ?_
        refine tw_any (fun x398 => ?_)
        have bx398 := i_ty x398
        refine tw_ist (P := PMk) (pc := 53) dX7_sever_53 hwb tq388 rfl (by omega) (by omega) (by omega) (by omega) (by decide) (fun f399 h400 eh400 gh400 kh400 wh400 fh400 => ?_)
        have hfh400 := hfb.tr fh400
        refine tt_aload_n (pc := 54) dX7_sever_54 (.head _) ?_
        refine tt_iload_n (pc := 55) dX7_sever_55 (.tail _ (.head _)) ?_
        refine tt_iload_n (pc := 56) dX7_sever_56 (.tail _ (.tail _ (.tail _ (.head _)))) ?_
        refine tw_callV (kc := 0) (ks := 0) (mc := 0) (ms := 0) (as := [.inl a1, .inl x384]) (st := []) (pc := 57) wh400 ta0 (by decide) dX7_sever_57 lkX7_135 imX7_settle seX7_settle rfl rfl (by decide) (by decide) (Nat.le_of_ble_eq_true rfl) (g_X7_settle hN2 hN8 hp0 hp64 wh400 a0 ta0 a1 (by omega) (by omega) x384 (by omega) (by omega)) (fun rv h401 qh401 => ?_)
        obtain ⟨wh401, fh401, rfl⟩ := qh401
        have hfh401 := hfh400.tr fh401
        show TT _ _ _ _ _ _ _ _ [] _
        refine tw_iinc (pc := 60) dX7_sever_60 (.tail _ (.tail _ (.tail _ (.head _)))) (by decide) (by decide) (by omega) (fun x402 ex402 => ?_)
        show TT _ _ _ _ _ _ _ [(3, .inl x402), (0, .inr (some a0)), (1, .inl a1), (2, .inl a2)] _ _
        refine tt_goto (tgt := 29) (pc := 63) dX7_sever_63 (by decide) ?_
        refine tt_loc [(0, .inr (some a0)), (1, .inl a1), (2, .inl a2), (3, .inl x402)] (List.forall_mem_cons.mpr ⟨(.tail _ (.head _)), List.forall_mem_cons.mpr ⟨(.tail _ (.tail _ (.head _))), List.forall_mem_cons.mpr ⟨(.tail _ (.tail _ (.tail _ (.head _)))), List.forall_mem_cons.mpr ⟨(.head _), fun _ z => absurd z List.not_mem_nil⟩⟩⟩⟩) ?_
        exact ih29 h401 wh401 hfh401 x402 (by omega) (by omega) (by omega)
  have B2 : ∀ (n2 : Nat) (hb : List tC) (hwb : WT N pk τ hb) (hfb : Fr PMk τ h hb) (x403 : Int32) (lx403 : 0 ≤ x403.toInt) (ux403 : x403.toInt ≤ 8), 8 - x403.toInt < n2 → TT l D mX7_sever Q0 0 0 2 [(0, .inr (some a0)), (1, .inl a1), (2, .inl a2), (3, .inl x403)] [] hb := by
    intro n2
    induction n2 with
    | zero =>
      intro hb hwb hfb x403 lx403 ux403 hn2
      exfalso
      omega
    | succ n2 ih2 =>
      intro hb hwb hfb x403 lx403 ux403 hn2
      refine tt_iload_n (pc := 2) dX7_sever_2 (.tail _ (.tail _ (.tail _ (.head _)))) ?_
      refine tw_bipush (pc := 3) dX7_sever_3 (by decide) (fun x404 ex404 => ?_)
      refine tw_icmp (tgt := 27) (pc := 5) dX7_sever_5 (by decide) (fun (c405 : x404.toInt ≤ x403.toInt) => ?_) (fun (c405 : ¬ (x404.toInt ≤ x403.toInt)) => ?_)
      · skip
        refine tw_iconst (pc := 27) dX7_sever_27 (by decide) (fun x406 ex406 => ?_)
        refine tt_istore_n (pc := 28) dX7_sever_28 (by decide) ?_
        show TT _ _ _ _ _ _ _ [(3, .inl x406), (0, .inr (some a0)), (1, .inl a1), (2, .inl a2)] _ _
        refine tt_loc [(0, .inr (some a0)), (1, .inl a1), (2, .inl a2), (3, .inl x406)] (List.forall_mem_cons.mpr ⟨(.tail _ (.head _)), List.forall_mem_cons.mpr ⟨(.tail _ (.tail _ (.head _))), List.forall_mem_cons.mpr ⟨(.tail _ (.tail _ (.tail _ (.head _)))), List.forall_mem_cons.mpr ⟨(.head _), fun _ z => absurd z List.not_mem_nil⟩⟩⟩⟩) ?_
        exact B29 65 hb hwb hfb x406 (by omega) (by omega) (by omega)
      · skip
        refine tt_aload_n (pc := 8) dX7_sever_8 (.head _) ?_
        refine tw_getr (pc := 9) dX7_sever_9 flX7_56 hwb ta0 (by decide) rfl (fun f407 q408 ef407 gf407 tq408 => ?_)
        refine tt_aload_n (pc := 12) dX7_sever_12 (.head _) ?_
        refine tt_iload_n (pc := 13) dX7_sever_13 (.tail _ (.head _)) ?_
        refine tt_iload_n (pc := 14) dX7_sever_14 (.tail _ (.tail _ (.tail _ (.head _)))) ?_
        refine tt_iload_n (pc := 15) dX7_sever_15 (.tail _ (.tail _ (.head _))) ?_
        refine tw_callV (kc := 0) (ks := 0) (mc := 0) (ms := 0) (as := [.inl a1, .inl x403, .inl a2]) (st := [.inr (some q408)]) (pc := 16) hwb ta0 (by decide) dX7_sever_16 lkX7_145 imX7_slot seX7_slot rfl rfl (by decide) (by decide) (Nat.le_of_ble_eq_true rfl) (g_X7_slot hN2 hN8 hp0 hp64 hwb a0 ta0 a1 (by omega) (by omega) x403 (by omega) (by omega) a2 (by omega) (by omega)) (fun rv h409 qh409 => ?_)
        obtain ⟨rfl, x410, rfl, lx410, ux410⟩ := qh409
        show TT _ _ _ _ _ _ _ _ [.inl x410, .inr (some q408)] _
        refine tw_iconst (pc := 19) dX7_sever_19 (by decide) (fun x411 ex411 => ?_)
        refine tw_ist (P := PMk) (pc := 20) dX7_sever_20 hwb tq408 rfl (by omega) (by omega) (by omega) (by omega) (by decide) (fun f412 h413 eh413 gh413 kh413 wh413 fh413 => ?_)
        have hfh413 := hfb.tr fh413
        refine tw_iinc (pc := 21) dX7_sever_21 (.tail _ (.tail _ (.tail _ (.head _)))) (by decide) (by decide) (by omega) (fun x414 ex414 => ?_)
        show TT _ _ _ _ _ _ _ [(3, .inl x414), (0, .inr (some a0)), (1, .inl a1), (2, .inl a2)] _ _
        refine tt_goto (tgt := 2) (pc := 24) dX7_sever_24 (by decide) ?_
        refine tt_loc [(0, .inr (some a0)), (1, .inl a1), (2, .inl a2), (3, .inl x414)] (List.forall_mem_cons.mpr ⟨(.tail _ (.head _)), List.forall_mem_cons.mpr ⟨(.tail _ (.tail _ (.head _))), List.forall_mem_cons.mpr ⟨(.tail _ (.tail _ (.tail _ (.head _)))), List.forall_mem_cons.mpr ⟨(.head _), fun _ z => absurd z List.not_mem_nil⟩⟩⟩⟩) ?_
        exact ih2 h413 wh413 hfh413 x414 (by omega) (by omega) (by omega)
  refine tw_iconst (pc := 0) dX7_sever_0 (by decide) (fun x415 ex415 => ?_)
  refine tt_istore_n (pc := 1) dX7_sever_1 (by decide) ?_
  show TT _ _ _ _ _ _ _ [(3, .inl x415), (0, .inr (some a0)), (1, .inl a1), (2, .inl a2)] _ _
  refine tt_loc [(0, .inr (some a0)), (1, .inl a1), (2, .inl a2), (3, .inl x415)] (List.forall_mem_cons.mpr ⟨(.tail _ (.head _)), List.forall_mem_cons.mpr ⟨(.tail _ (.tail _ (.head _))), List.forall_mem_cons.mpr ⟨(.tail _ (.tail _ (.tail _ (.head _)))), List.forall_mem_cons.mpr ⟨(.head _), fun _ z => absurd z List.not_mem_nil⟩⟩⟩⟩) ?_
  exact B2 9 h hw hf x415 (by omega) (by omega) (by omega)
