set_option maxHeartbeats 4000000 in
theorem g_X7_goesE {l : Launch} {D : va_G} {N : Nat} {pk : Int} {τ : List Nat} (hN2 : 2 ≤ N) (hN8 : N ≤ 8) (hp0 : 0 ≤ pk) (hp64 : pk ≤ 64) {h : List tC} (hw : WT N pk τ h) (a0 : Nat) (ta0 : τ[a0]? = some 7) (a1 : Int32) (la1 : 0 ≤ a1.toInt) (ua1 : a1.toInt ≤ 1) (a2 : Int32) (la2 : 0 ≤ a2.toInt) (ua2 : a2.toInt ≤ 1) : TMc l D yX7_goes cX7_goes 3 (some .boolean) 0 0 0 0 [.inr (some a0), .inl a1, .inl a2] h (fun rv h' => WT N pk τ h' ∧ Fr PMg τ h h' ∧ ∃ x t : Int32, rv = some (.inl x) ∧ THR h' a0 t ∧ (0 ≤ x.toInt ∧ x.toInt ≤ 1) ∧ (a1.toInt = 0 → t.toInt = 1 ∧ x.toInt = 0) ∧ (a1.toInt ≠ 0 → a2.toInt = 0 → t.toInt = 2 ∧ x.toInt = 0) ∧ (a1.toInt ≠ 0 → a2.toInt ≠ 0 → t.toInt = 0 ∧ x.toInt = 1)) := by
  refine tmc_of false rfl (by decide) (Nat.le_of_ble_eq_true rfl) ?_
  suffices HQ : ∀ Q0, Q0 = tRt cX7_goes (some .boolean) (fun rv h' => WT N pk τ h' ∧ Fr PMg τ h h' ∧ ∃ x t : Int32, rv = some (.inl x) ∧ THR h' a0 t ∧ (0 ≤ x.toInt ∧ x.toInt ≤ 1) ∧ (a1.toInt = 0 → t.toInt = 1 ∧ x.toInt = 0) ∧ (a1.toInt ≠ 0 → a2.toInt = 0 → t.toInt = 2 ∧ x.toInt = 0) ∧ (a1.toInt ≠ 0 → a2.toInt ≠ 0 → t.toInt = 0 ∧ x.toInt = 1)) → TT l D mX7_goes Q0 0 0 0 [(0, .inr (some a0)), (1, .inl a1), (2, .inl a2)] [] h from HQ _ rfl
  intro Q0 hQ
  have hf : Fr PMg τ h h := Fr.rf
  refine tt_aload_n (pc := 0) dX7_goes_0 (.head _) ?_
  refine tt_iload_n (pc := 1) dX7_goes_1 (.tail _ (.head _)) ?_
  refine tw_if (tgt := 9) (pc := 2) dX7_goes_2 (by decide) (fun (c18 : a1.toInt ≠ 0) => ?_) (fun (c18 : ¬ (a1.toInt ≠ 0)) => ?_)
  · skip
    refine tt_iload_n (pc := 9) dX7_goes_9 (.tail _ (.tail _ (.head _))) ?_
    refine tw_if (tgt := 17) (pc := 10) dX7_goes_10 (by decide) (fun (c19 : a2.toInt ≠ 0) => ?_) (fun (c19 : ¬ (a2.toInt ≠ 0)) => ?_)
    · skip
      refine tw_iconst (pc := 17) dX7_goes_17 (by decide) (fun x20 ex20 => ?_)
      refine tw_put (P := PMg) (pc := 18) dX7_goes_18 flX7_96 hw ta0 (by decide) rfl ⟨by omega, by omega⟩ rfl (by decide) (by decide) (fun f21 h22 eh22 gh22 kh22 wh22 fh22 => ?_)
      have hfh22 := hf.tr fh22
      refine tt_aload_n (pc := 21) dX7_goes_21 (.head _) ?_
      refine tt_get (pc := 22) dX7_goes_22 flX7_96 gh22 (List.getElem?_set_self kh22) ?_
      refine tw_if (tgt := 32) (pc := 25) dX7_goes_25 (by decide) (fun (c23 : x20.toInt ≠ 0) => ?_) (fun (c23 : ¬ (x20.toInt ≠ 0)) => ?_)
      · skip
        exfalso
        omega
      · skip
        refine tw_iconst (pc := 28) dX7_goes_28 (by decide) (fun x24 ex24 => ?_)
        refine tt_goto (tgt := 33) (pc := 29) dX7_goes_29 (by decide) ?_
        refine tt_stop ?_
        rw [hQ]
        exact Or.inr (Or.inl ⟨x24, dX7_goes_33, rfl, Or.inr ⟨rfl, bool01 (by omega) (by omega)⟩, wh22, hfh22, x24, x20, rfl, ⟨_, gh22, (List.getElem?_set_self kh22)⟩, ⟨by omega, by omega⟩, fun z => ⟨by omega, by omega⟩, fun z y => ⟨by omega, by omega⟩, fun z y => ⟨by omega, by omega⟩⟩)
    · skip
      refine tw_iconst (pc := 13) dX7_goes_13 (by decide) (fun x25 ex25 => ?_)
      refine tt_goto (tgt := 18) (pc := 14) dX7_goes_14 (by decide) ?_
      refine tw_put (P := PMg) (pc := 18) dX7_goes_18 flX7_96 hw ta0 (by decide) rfl ⟨by omega, by omega⟩ rfl (by decide) (by decide) (fun f26 h27 eh27 gh27 kh27 wh27 fh27 => ?_)
      have hfh27 := hf.tr fh27
      refine tt_aload_n (pc := 21) dX7_goes_21 (.head _) ?_
      refine tt_get (pc := 22) dX7_goes_22 flX7_96 gh27 (List.getElem?_set_self kh27) ?_
      refine tw_if (tgt := 32) (pc := 25) dX7_goes_25 (by decide) (fun (c28 : x25.toInt ≠ 0) => ?_) (fun (c28 : ¬ (x25.toInt ≠ 0)) => ?_)
      · skip
        refine tw_iconst (pc := 32) dX7_goes_32 (by decide) (fun x29 ex29 => ?_)
        refine tt_stop ?_
        rw [hQ]
        exact Or.inr (Or.inl ⟨x29, dX7_goes_33, rfl, Or.inr ⟨rfl, bool01 (by omega) (by omega)⟩, wh27, hfh27, x29, x25, rfl, ⟨_, gh27, (List.getElem?_set_self kh27)⟩, ⟨by omega, by omega⟩, fun z => ⟨by omega, by omega⟩, fun z y => ⟨by omega, by omega⟩, fun z y => ⟨by omega, by omega⟩⟩)
      · skip
        exfalso
        omega
  · skip
    refine tw_iconst (pc := 5) dX7_goes_5 (by decide) (fun x30 ex30 => ?_)
    refine tt_goto (tgt := 18) (pc := 6) dX7_goes_6 (by decide) ?_
    refine tw_put (P := PMg) (pc := 18) dX7_goes_18 flX7_96 hw ta0 (by decide) rfl ⟨by omega, by omega⟩ rfl (by decide) (by decide) (fun f31 h32 eh32 gh32 kh32 wh32 fh32 => ?_)
    have hfh32 := hf.tr fh32
    refine tt_aload_n (pc := 21) dX7_goes_21 (.head _) ?_
    refine tt_get (pc := 22) dX7_goes_22 flX7_96 gh32 (List.getElem?_set_self kh32) ?_
    refine tw_if (tgt := 32) (pc := 25) dX7_goes_25 (by decide) (fun (c33 : x30.toInt ≠ 0) => ?_) (fun (c33 : ¬ (x30.toInt ≠ 0)) => ?_)
    · skip
      refine tw_iconst (pc := 32) dX7_goes_32 (by decide) (fun x34 ex34 => ?_)
      refine tt_stop ?_
      rw [hQ]
      exact Or.inr (Or.inl ⟨x34, dX7_goes_33, rfl, Or.inr ⟨rfl, bool01 (by omega) (by omega)⟩, wh32, hfh32, x34, x30, rfl, ⟨_, gh32, (List.getElem?_set_self kh32)⟩, ⟨by omega, by omega⟩, fun z => ⟨by omega, by omega⟩, fun z y => ⟨by omega, by omega⟩, fun z y => ⟨by omega, by omega⟩⟩)
    · skip
      exfalso
      omega
abbrev mX7_lay : tM := (RX7, cX7_lay, 6, 2, 42, false)
set_option maxHeartbeats 4000000 in
theorem g_X7_lay {l : Launch} {D : va_G} {N : Nat} {pk : Int} {τ : List Nat} (hN2 : 2 ≤ N) (hN8 : N ≤ 8) (hp0 : 0 ≤ pk) (hp64 : pk ≤ 64) {h : List tC} (hw : WT N pk τ h) (a0 : Nat) (ta0 : τ[a0]? = some 7) (a1 : Int32) (a2 : Int32) (a3 : Int32) (a4 : Int32) : TMc l D yX7_lay cX7_lay 6 none 2 42 0 0 [.inr (some a0), .inl a1, .inl a2, .inl a3, .inl a4] h (fun rv h' => WT N pk τ h' ∧ Fr PMlay τ h h' ∧ rv = none ∧ ∃ t : Int32, THR h' a0 t ∧ ((¬ (0 ≤ a1.toInt ∧ a1.toInt ≤ 11 ∧ 0 ≤ a2.toInt ∧ a2.toInt ≤ (N : Int) - 1 ∧ 0 ≤ a3.toInt ∧ a3.toInt ≤ (N : Int) - 1) ∧ t.toInt = 1 ∧ Fr PMg τ h h') ∨ ((0 ≤ a1.toInt ∧ a1.toInt ≤ 11 ∧ 0 ≤ a2.toInt ∧ a2.toInt ≤ (N : Int) - 1 ∧ 0 ≤ a3.toInt ∧ a3.toInt ≤ (N : Int) - 1) ∧ t.toInt = 2 ∧ Fr PMg τ h h' ∧ (a2.toInt = a3.toInt ∨ a4.toInt < 1 ∨ 60 < a4.toInt ∨ ∃ (k : Nat) (xs : List Int32) (v : Int32), τ[k]? = some 32 ∧ h[k]? = some (.inl (1, xs)) ∧ xs[a1.toNatClampNeg]? = some v ∧ v.toInt ≠ 0)) ∨ ((0 ≤ a1.toInt ∧ a1.toInt ≤ 11 ∧ 0 ≤ a2.toInt ∧ a2.toInt ≤ (N : Int) - 1 ∧ 0 ≤ a3.toInt ∧ a3.toInt ≤ (N : Int) - 1) ∧ t.toInt = 0 ∧ a2.toInt ≠ a3.toInt ∧ 1 ≤ a4.toInt ∧ a4.toInt ≤ 60 ∧ ∃ (k : Nat) (xs : List Int32) (v o : Int32), τ[k]? = some 32 ∧ h[k]? = some (.inl (1, xs)) ∧ xs[a1.toNatClampNeg]? = some v ∧ v.toInt = 0 ∧ h'[k]? = some (.inl (1, xs.set a1.toNatClampNeg o)) ∧ o.toInt = 1))) := by
  refine tmc_of false rfl (by decide) (Nat.le_of_ble_eq_true rfl) ?_
  suffices HQ : ∀ Q0, Q0 = tRt cX7_lay none (fun rv h' => WT N pk τ h' ∧ Fr PMlay τ h h' ∧ rv = none ∧ ∃ t : Int32, THR h' a0 t ∧ ((¬ (0 ≤ a1.toInt ∧ a1.toInt ≤ 11 ∧ 0 ≤ a2.toInt ∧ a2.toInt ≤ (N : Int) - 1 ∧ 0 ≤ a3.toInt ∧ a3.toInt ≤ (N : Int) - 1) ∧ t.toInt = 1 ∧ Fr PMg τ h h') ∨ ((0 ≤ a1.toInt ∧ a1.toInt ≤ 11 ∧ 0 ≤ a2.toInt ∧ a2.toInt ≤ (N : Int) - 1 ∧ 0 ≤ a3.toInt ∧ a3.toInt ≤ (N : Int) - 1) ∧ t.toInt = 2 ∧ Fr PMg τ h h' ∧ (a2.toInt = a3.toInt ∨ a4.toInt < 1 ∨ 60 < a4.toInt ∨ ∃ (k : Nat) (xs : List Int32) (v : Int32), τ[k]? = some 32 ∧ h[k]? = some (.inl (1, xs)) ∧ xs[a1.toNatClampNeg]? = some v ∧ v.toInt ≠ 0)) ∨ ((0 ≤ a1.toInt ∧ a1.toInt ≤ 11 ∧ 0 ≤ a2.toInt ∧ a2.toInt ≤ (N : Int) - 1 ∧ 0 ≤ a3.toInt ∧ a3.toInt ≤ (N : Int) - 1) ∧ t.toInt = 0 ∧ a2.toInt ≠ a3.toInt ∧ 1 ≤ a4.toInt ∧ a4.toInt ≤ 60 ∧ ∃ (k : Nat) (xs : List Int32) (v o : Int32), τ[k]? = some 32 ∧ h[k]? = some (.inl (1, xs)) ∧ xs[a1.toNatClampNeg]? = some v ∧ v.toInt = 0 ∧ h'[k]? = some (.inl (1, xs.set a1.toNatClampNeg o)) ∧ o.toInt = 1))) → TT l D mX7_lay Q0 0 0 0 [(0, .inr (some a0)), (1, .inl a1), (2, .inl a2), (3, .inl a3), (4, .inl a4)] [] h from HQ _ rfl
  intro Q0 hQ
  have hf : Fr PMlay τ h h := Fr.rf
  have ba1 := i_ty a1
  have ba2 := i_ty a2
  have ba3 := i_ty a3
  have ba4 := i_ty a4
  refine tt_iload_n (pc := 0) dX7_lay_0 (.tail _ (.head _)) ?_
  refine tw_bipush (pc := 1) dX7_lay_1 (by decide) (fun x295 ex295 => ?_)
  refine tt_callS (kc := 0) (ks := 0) (mc := 0) (ms := 0) (as := [.inl a1, .inl x295]) (st := []) (pc := 3) dX7_lay_3 lkX7_99 smX7_in rfl (by decide) (by decide) (Nat.le_of_ble_eq_true rfl) (g_X7_in hN2 hN8 hp0 hp64 hw a1 x295) (fun rv h296 qh296 => ?_)
  obtain ⟨rfl, x297, rfl, lx297, ux297, Gx297, Zx297⟩ := qh296
  show TT _ _ _ _ _ _ _ _ [.inl x297] _
  refine tw_if (tgt := 29) (pc := 6) dX7_lay_6 (by decide) (fun (c300 : x297.toInt = 0) => ?_) (fun (c300 : ¬ (x297.toInt = 0)) => ?_)
  · skip
    refine tw_iconst (pc := 29) dX7_lay_29 (by decide) (fun x301 ex301 => ?_)
    refine tt_istore (pc := 30) dX7_lay_30 (by decide) ?_
    show TT _ _ _ _ _ _ _ [(5, .inl x301), (0, .inr (some a0)), (1, .inl a1), (2, .inl a2), (3, .inl a3), (4, .inl a4)] _ _
    refine tt_aload_n (pc := 32) dX7_lay_32 (.tail _ (.head _)) ?_
    refine tt_iload (pc := 33) dX7_lay_33 (.head _) ?_
    refine tt_iload (pc := 35) dX7_lay_35 (.head _) ?_
    refine tw_if (tgt := 71) (pc := 37) dX7_lay_37 (by decide) (fun (c302 : x301.toInt = 0) => ?_) (fun (c302 : ¬ (x301.toInt = 0)) => ?_)
    · skip
      refine tw_iconst (pc := 71) dX7_lay_71 (by decide) (fun x303 ex303 => ?_)
      refine tw_callV (kc := 0) (ks := 0) (mc := 0) (ms := 0) (as := [.inl x301, .inl x303]) (st := []) (pc := 72) hw ta0 (by decide) dX7_lay_72 lkX7_193 imX7_goes seX7_goes rfl rfl (by decide) (by decide) (Nat.le_of_ble_eq_true rfl) (g_X7_goesE hN2 hN8 hp0 hp64 hw a0 ta0 x301 (by omega) (by omega) x303 (by omega) (by omega)) (fun rv h304 qh304 => ?_)
      obtain ⟨wh304, fh304, x306, x307, rfl, ⟨fsh304, eh304, gh304⟩, ⟨lx306, ux306⟩, Ah304, Bh304, Ch304⟩ := qh304
      have hfh304 := hf.tr (fh304.weak weak_PMg_PMlay)
      show TT _ _ _ _ _ _ _ _ [.inl x306] _
      refine tw_if (tgt := 79) (pc := 75) dX7_lay_75 (by decide) (fun (c310 : x306.toInt ≠ 0) => ?_) (fun (c310 : ¬ (x306.toInt ≠ 0)) => ?_)
      · skip
        exfalso
        omega
      · skip
        refine tt_stop ?_
        rw [hQ]
        exact Or.inl ⟨dX7_lay_78, rfl, rfl, wh304, hfh304, rfl, x307, ⟨_, eh304, gh304⟩, Or.inl ⟨by omega, by omega, fh304⟩⟩
    · skip
      exfalso
      omega
  · skip
    obtain ⟨b298, b299⟩ := Gx297 (by omega)
    refine tt_aload_n (pc := 9) dX7_lay_9 (.head _) ?_
    refine tt_iload_n (pc := 10) dX7_lay_10 (.tail _ (.tail _ (.head _))) ?_
    refine tw_callV (kc := 0) (ks := 0) (mc := 0) (ms := 0) (as := [.inl a2]) (st := []) (pc := 11) hw ta0 (by decide) dX7_lay_11 lkX7_189 imX7_isRouter seX7_isRouter rfl rfl (by decide) (by decide) (Nat.le_of_ble_eq_true rfl) (g_X7_isRouter hN2 hN8 hp0 hp64 hw a0 ta0 a2) (fun rv h311 qh311 => ?_)
    obtain ⟨rfl, x312, rfl, lx312, ux312, Gx312, Zx312⟩ := qh311
    show TT _ _ _ _ _ _ _ _ [.inl x312] _
    refine tw_if (tgt := 29) (pc := 14) dX7_lay_14 (by decide) (fun (c315 : x312.toInt = 0) => ?_) (fun (c315 : ¬ (x312.toInt = 0)) => ?_)
    · skip
      refine tw_iconst (pc := 29) dX7_lay_29 (by decide) (fun x316 ex316 => ?_)
      refine tt_istore (pc := 30) dX7_lay_30 (by decide) ?_
      show TT _ _ _ _ _ _ _ [(5, .inl x316), (0, .inr (some a0)), (1, .inl a1), (2, .inl a2), (3, .inl a3), (4, .inl a4)] _ _
      refine tt_aload_n (pc := 32) dX7_lay_32 (.tail _ (.head _)) ?_
      refine tt_iload (pc := 33) dX7_lay_33 (.head _) ?_
      refine tt_iload (pc := 35) dX7_lay_35 (.head _) ?_
      refine tw_if (tgt := 71) (pc := 37) dX7_lay_37 (by decide) (fun (c317 : x316.toInt = 0) => ?_) (fun (c317 : ¬ (x316.toInt = 0)) => ?_)
      · skip
        refine tw_iconst (pc := 71) dX7_lay_71 (by decide) (fun x318 ex318 => ?_)
        refine tw_callV (kc := 0) (ks := 0) (mc := 0) (ms := 0) (as := [.inl x316, .inl x318]) (st := []) (pc := 72) hw ta0 (by decide) dX7_lay_72 lkX7_193 imX7_goes seX7_goes rfl rfl (by decide) (by decide) (Nat.le_of_ble_eq_true rfl) (g_X7_goesE hN2 hN8 hp0 hp64 hw a0 ta0 x316 (by omega) (by omega) x318 (by omega) (by omega)) (fun rv h319 qh319 => ?_)
        obtain ⟨wh319, fh319, x321, x322, rfl, ⟨fsh319, eh319, gh319⟩, ⟨lx321, ux321⟩, Ah319, Bh319, Ch319⟩ := qh319
        have hfh319 := hf.tr (fh319.weak weak_PMg_PMlay)
        show TT _ _ _ _ _ _ _ _ [.inl x321] _
        refine tw_if (tgt := 79) (pc := 75) dX7_lay_75 (by decide) (fun (c325 : x321.toInt ≠ 0) => ?_) (fun (c325 : ¬ (x321.toInt ≠ 0)) => ?_)
        · skip
          exfalso
          omega
        · skip
          refine tt_stop ?_
          rw [hQ]
          exact Or.inl ⟨dX7_lay_78, rfl, rfl, wh319, hfh319, rfl, x322, ⟨_, eh319, gh319⟩, Or.inl ⟨by omega, by omega, fh319⟩⟩
      · skip
        exfalso
        omega
    · skip
      obtain ⟨b313, b314⟩ := Gx312 (by omega)
      refine tt_aload_n (pc := 17) dX7_lay_17 (.head _) ?_
      refine tt_iload_n (pc := 18) dX7_lay_18 (.tail _ (.tail _ (.tail _ (.head _)))) ?_
      refine tw_callV (kc := 0) (ks := 0) (mc := 0) (ms := 0) (as := [.inl a3]) (st := []) (pc := 19) hw ta0 (by decide) dX7_lay_19 lkX7_189 imX7_isRouter seX7_isRouter rfl rfl (by decide) (by decide) (Nat.le_of_ble_eq_true rfl) (g_X7_isRouter hN2 hN8 hp0 hp64 hw a0 ta0 a3) (fun rv h326 qh326 => ?_)
      obtain ⟨rfl, x327, rfl, lx327, ux327, Gx327, Zx327⟩ := qh326
      show TT _ _ _ _ _ _ _ _ [.inl x327] _
      refine tw_if (tgt := 29) (pc := 22) dX7_lay_22 (by decide) (fun (c330 : x327.toInt = 0) => ?_) (fun (c330 : ¬ (x327.toInt = 0)) => ?_)
      · skip
        refine tw_iconst (pc := 29) dX7_lay_29 (by decide) (fun x331 ex331 => ?_)
        refine tt_istore (pc := 30) dX7_lay_30 (by decide) ?_
        show TT _ _ _ _ _ _ _ [(5, .inl x331), (0, .inr (some a0)), (1, .inl a1), (2, .inl a2), (3, .inl a3), (4, .inl a4)] _ _
        refine tt_aload_n (pc := 32) dX7_lay_32 (.tail _ (.head _)) ?_
        refine tt_iload (pc := 33) dX7_lay_33 (.head _) ?_
        refine tt_iload (pc := 35) dX7_lay_35 (.head _) ?_
        refine tw_if (tgt := 71) (pc := 37) dX7_lay_37 (by decide) (fun (c332 : x331.toInt = 0) => ?_) (fun (c332 : ¬ (x331.toInt = 0)) => ?_)
        · skip
          refine tw_iconst (pc := 71) dX7_lay_71 (by decide) (fun x333 ex333 => ?_)
          refine tw_callV (kc := 0) (ks := 0) (mc := 0) (ms := 0) (as := [.inl x331, .inl x333]) (st := []) (pc := 72) hw ta0 (by decide) dX7_lay_72 lkX7_193 imX7_goes seX7_goes rfl rfl (by decide) (by decide) (Nat.le_of_ble_eq_true rfl) (g_X7_goesE hN2 hN8 hp0 hp64 hw a0 ta0 x331 (by omega) (by omega) x333 (by omega) (by omega)) (fun rv h334 qh334 => ?_)
          obtain ⟨wh334, fh334, x336, x337, rfl, ⟨fsh334, eh334, gh334⟩, ⟨lx336, ux336⟩, Ah334, Bh334, Ch334⟩ := qh334
          have hfh334 := hf.tr (fh334.weak weak_PMg_PMlay)
          show TT _ _ _ _ _ _ _ _ [.inl x336] _
          refine tw_if (tgt := 79) (pc := 75) dX7_lay_75 (by decide) (fun (c340 : x336.toInt ≠ 0) => ?_) (fun (c340 : ¬ (x336.toInt ≠ 0)) => ?_)
          · skip
            exfalso
            omega
          · skip
            refine tt_stop ?_
            rw [hQ]
            exact Or.inl ⟨dX7_lay_78, rfl, rfl, wh334, hfh334, rfl, x337, ⟨_, eh334, gh334⟩, Or.inl ⟨by omega, by omega, fh334⟩⟩
        · skip
          exfalso
          omega
      · skip
        obtain ⟨b328, b329⟩ := Gx327 (by omega)
        refine tw_iconst (pc := 25) dX7_lay_25 (by decide) (fun x341 ex341 => ?_)
        refine tt_goto (tgt := 30) (pc := 26) dX7_lay_26 (by decide) ?_
        refine tt_istore (pc := 30) dX7_lay_30 (by decide) ?_
        show TT _ _ _ _ _ _ _ [(5, .inl x341), (0, .inr (some a0)), (1, .inl a1), (2, .inl a2), (3, .inl a3), (4, .inl a4)] _ _
        refine tt_aload_n (pc := 32) dX7_lay_32 (.tail _ (.head _)) ?_
        refine tt_iload (pc := 33) dX7_lay_33 (.head _) ?_
        refine tt_iload (pc := 35) dX7_lay_35 (.head _) ?_
        refine tw_if (tgt := 71) (pc := 37) dX7_lay_37 (by decide) (fun (c342 : x341.toInt = 0) => ?_) (fun (c342 : ¬ (x341.toInt = 0)) => ?_)
        · skip
          exfalso
          omega
        · skip
          refine tt_aload_n (pc := 40) dX7_lay_40 (.tail _ (.head _)) ?_
          refine tw_getr (pc := 41) dX7_lay_41 flX7_7 hw ta0 (by decide) rfl (fun f343 q344 ef343 gf343 tq344 => ?_)
          refine tt_iload_n (pc := 44) dX7_lay_44 (.tail _ (.tail _ (.head _))) ?_
          refine tw_zld (pc := 45) dX7_lay_45 hw tq344 rfl (by omega) (by omega) (fun f346 x345 ef346 gf346 lx345 ux345 => ?_)
          refine tw_if (tgt := 71) (pc := 46) dX7_lay_46 (by decide) (fun (c347 : x345.toInt ≠ 0) => ?_) (fun (c347 : ¬ (x345.toInt ≠ 0)) => ?_)
          · skip
            refine tw_iconst (pc := 71) dX7_lay_71 (by decide) (fun x348 ex348 => ?_)
            refine tw_callV (kc := 0) (ks := 0) (mc := 0) (ms := 0) (as := [.inl x341, .inl x348]) (st := []) (pc := 72) hw ta0 (by decide) dX7_lay_72 lkX7_193 imX7_goes seX7_goes rfl rfl (by decide) (by decide) (Nat.le_of_ble_eq_true rfl) (g_X7_goesE hN2 hN8 hp0 hp64 hw a0 ta0 x341 (by omega) (by omega) x348 (by omega) (by omega)) (fun rv h349 qh349 => ?_)
            obtain ⟨wh349, fh349, x351, x352, rfl, ⟨fsh349, eh349, gh349⟩, ⟨lx351, ux351⟩, Ah349, Bh349, Ch349⟩ := qh349
            have hfh349 := hf.tr (fh349.weak weak_PMg_PMlay)
            show TT _ _ _ _ _ _ _ _ [.inl x351] _
            refine tw_if (tgt := 79) (pc := 75) dX7_lay_75 (by decide) (fun (c355 : x351.toInt ≠ 0) => ?_) (fun (c355 : ¬ (x351.toInt ≠ 0)) => ?_)
            · skip
              exfalso
              omega
            · skip
              refine tt_stop ?_
              rw [hQ]
              exact Or.inl ⟨dX7_lay_78, rfl, rfl, wh349, hfh349, rfl, x352, ⟨_, eh349, gh349⟩, Or.inr (Or.inl ⟨⟨by omega, by omega, by omega, by omega, by omega, by omega⟩, by omega, fh349, Or.inr (Or.inr (Or.inr ⟨q344, _, x345, tq344, ef346, gf346, by omega⟩))⟩)⟩
          · skip
            refine tt_iload_n (pc := 49) dX7_lay_49 (.tail _ (.tail _ (.tail _ (.head _)))) ?_
            refine tt_iload_n (pc := 50) dX7_lay_50 (.tail _ (.tail _ (.tail _ (.tail _ (.head _))))) ?_
            refine tw_icmp (tgt := 71) (pc := 51) dX7_lay_51 (by decide) (fun (c356 : a2.toInt = a3.toInt) => ?_) (fun (c356 : ¬ (a2.toInt = a3.toInt)) => ?_)
            · skip
              refine tw_iconst (pc := 71) dX7_lay_71 (by decide) (fun x357 ex357 => ?_)
              refine tw_callV (kc := 0) (ks := 0) (mc := 0) (ms := 0) (as := [.inl x341, .inl x357]) (st := []) (pc := 72) hw ta0 (by decide) dX7_lay_72 lkX7_193 imX7_goes seX7_goes rfl rfl (by decide) (by decide) (Nat.le_of_ble_eq_true rfl) (g_X7_goesE hN2 hN8 hp0 hp64 hw a0 ta0 x341 (by omega) (by omega) x357 (by omega) (by omega)) (fun rv h358 qh358 => ?_)
              obtain ⟨wh358, fh358, x360, x361, rfl, ⟨fsh358, eh358, gh358⟩, ⟨lx360, ux360⟩, Ah358, Bh358, Ch358⟩ := qh358
              have hfh358 := hf.tr (fh358.weak weak_PMg_PMlay)
              show TT _ _ _ _ _ _ _ _ [.inl x360] _
              refine tw_if (tgt := 79) (pc := 75) dX7_lay_75 (by decide) (fun (c364 : x360.toInt ≠ 0) => ?_) (fun (c364 : ¬ (x360.toInt ≠ 0)) => ?_)
              · skip
                exfalso
                omega
              · skip
                refine tt_stop ?_
                rw [hQ]
                exact Or.inl ⟨dX7_lay_78, rfl, rfl, wh358, hfh358, rfl, x361, ⟨_, eh358, gh358⟩, Or.inr (Or.inl ⟨⟨by omega, by omega, by omega, by omega, by omega, by omega⟩, by omega, fh358, (by first | exact Or.inl (by omega) | exact Or.inr (Or.inl (by omega)) | exact Or.inr (Or.inr (Or.inl (by omega))))⟩)⟩
            · skip
              refine tt_iload (pc := 54) dX7_lay_54 (.tail _ (.tail _ (.tail _ (.tail _ (.tail _ (.head _)))))) ?_
              refine tw_iconst (pc := 56) dX7_lay_56 (by decide) (fun x365 ex365 => ?_)
              refine tw_icmp (tgt := 71) (pc := 57) dX7_lay_57 (by decide) (fun (c366 : a4.toInt < x365.toInt) => ?_) (fun (c366 : ¬ (a4.toInt < x365.toInt)) => ?_)
              · skip
                refine tw_iconst (pc := 71) dX7_lay_71 (by decide) (fun x367 ex367 => ?_)
                refine tw_callV (kc := 0) (ks := 0) (mc := 0) (ms := 0) (as := [.inl x341, .inl x367]) (st := []) (pc := 72) hw ta0 (by decide) dX7_lay_72 lkX7_193 imX7_goes seX7_goes rfl rfl (by decide) (by decide) (Nat.le_of_ble_eq_true rfl) (g_X7_goesE hN2 hN8 hp0 hp64 hw a0 ta0 x341 (by omega) (by omega) x367 (by omega) (by omega)) (fun rv h368 qh368 => ?_)
                obtain ⟨wh368, fh368, x370, x371, rfl, ⟨fsh368, eh368, gh368⟩, ⟨lx370, ux370⟩, Ah368, Bh368, Ch368⟩ := qh368
                have hfh368 := hf.tr (fh368.weak weak_PMg_PMlay)
                show TT _ _ _ _ _ _ _ _ [.inl x370] _
                refine tw_if (tgt := 79) (pc := 75) dX7_lay_75 (by decide) (fun (c374 : x370.toInt ≠ 0) => ?_) (fun (c374 : ¬ (x370.toInt ≠ 0)) => ?_)
                · skip
                  exfalso
                  omega
                · skip
                  refine tt_stop ?_
                  rw [hQ]
                  exact Or.inl ⟨dX7_lay_78, rfl, rfl, wh368, hfh368, rfl, x371, ⟨_, eh368, gh368⟩, Or.inr (Or.inl ⟨⟨by omega, by omega, by omega, by omega, by omega, by omega⟩, by omega, fh368, (by first | exact Or.inl (by omega) | exact Or.inr (Or.inl (by omega)) | exact Or.inr (Or.inr (Or.inl (by omega))))⟩)⟩
              · skip
                refine tt_iload (pc := 60) dX7_lay_60 (.tail _ (.tail _ (.tail _ (.tail _ (.tail _ (.head _)))))) ?_
                refine tw_bipush (pc := 62) dX7_lay_62 (by decide) (fun x375 ex375 => ?_)
                refine tw_icmp (tgt := 71) (pc := 64) dX7_lay_64 (by decide) (fun (c376 : x375.toInt < a4.toInt) => ?_) (fun (c376 : ¬ (x375.toInt < a4.toInt)) => ?_)
                · skip
                  refine tw_iconst (pc := 71) dX7_lay_71 (by decide) (fun x377 ex377 => ?_)
                  refine tw_callV (kc := 0) (ks := 0) (mc := 0) (ms := 0) (as := [.inl x341, .inl x377]) (st := []) (pc := 72) hw ta0 (by decide) dX7_lay_72 lkX7_193 imX7_goes seX7_goes rfl rfl (by decide) (by decide) (Nat.le_of_ble_eq_true rfl) (g_X7_goesE hN2 hN8 hp0 hp64 hw a0 ta0 x341 (by omega) (by omega) x377 (by omega) (by omega)) (fun rv h378 qh378 => ?_)
                  obtain ⟨wh378, fh378, x380, x381, rfl, ⟨fsh378, eh378, gh378⟩, ⟨lx380, ux380⟩, Ah378, Bh378, Ch378⟩ := qh378
                  have hfh378 := hf.tr (fh378.weak weak_PMg_PMlay)
                  show TT _ _ _ _ _ _ _ _ [.inl x380] _
                  refine tw_if (tgt := 79) (pc := 75) dX7_lay_75 (by decide) (fun (c384 : x380.toInt ≠ 0) => ?_) (fun (c384 : ¬ (x380.toInt ≠ 0)) => ?_)
                  · skip
                    exfalso
                    omega
                  · skip
                    refine tt_stop ?_
                    rw [hQ]
                    exact Or.inl ⟨dX7_lay_78, rfl, rfl, wh378, hfh378, rfl, x381, ⟨_, eh378, gh378⟩, Or.inr (Or.inl ⟨⟨by omega, by omega, by omega, by omega, by omega, by omega⟩, by omega, fh378, (by first | exact Or.inl (by omega) | exact Or.inr (Or.inl (by omega)) | exact Or.inr (Or.inr (Or.inl (by omega))))⟩)⟩
                · skip
                  refine tw_iconst (pc := 67) dX7_lay_67 (by decide) (fun x385 ex385 => ?_)
                  refine tt_goto (tgt := 72) (pc := 68) dX7_lay_68 (by decide) ?_
                  refine tw_callV (kc := 0) (ks := 0) (mc := 0) (ms := 0) (as := [.inl x341, .inl x385]) (st := []) (pc := 72) hw ta0 (by decide) dX7_lay_72 lkX7_193 imX7_goes seX7_goes rfl rfl (by decide) (by decide) (Nat.le_of_ble_eq_true rfl) (g_X7_goesE hN2 hN8 hp0 hp64 hw a0 ta0 x341 (by omega) (by omega) x385 (by omega) (by omega)) (fun rv h386 qh386 => ?_)
                  obtain ⟨wh386, fh386, x388, x389, rfl, ⟨fsh386, eh386, gh386⟩, ⟨lx388, ux388⟩, Ah386, Bh386, Ch386⟩ := qh386
                  have hfh386 := hf.tr (fh386.weak weak_PMg_PMlay)
                  show TT _ _ _ _ _ _ _ _ [.inl x388] _
                  refine tw_if (tgt := 79) (pc := 75) dX7_lay_75 (by decide) (fun (c392 : x388.toInt ≠ 0) => ?_) (fun (c392 : ¬ (x388.toInt ≠ 0)) => ?_)
                  · skip
                    obtain ⟨b390, b391⟩ := (fun zz => (show x341.toInt = 1 ∧ x385.toInt = 1 from by omega)) (by omega)
                    refine tt_aload_n (pc := 79) dX7_lay_79 (.tail _ (.head _)) ?_
                    refine tw_getr (pc := 80) dX7_lay_80 flX7_7 wh386 ta0 (by decide) rfl (fun f393 q394 ef393 gf393 tq394 => ?_)
                    refine tt_iload_n (pc := 83) dX7_lay_83 (.tail _ (.tail _ (.head _))) ?_
                    refine tw_iconst (pc := 84) dX7_lay_84 (by decide) (fun x395 ex395 => ?_)
                    refine tw_zst (P := (PEX 32)) (pc := 85) dX7_lay_85 wh386 tq394 rfl (by omega) (by omega) (by omega) (by omega) (by decide) (fun f396 h397 eh397 gh397 kh397 wh397 fh397 => ?_)
                    have hfh397 := hfh386.tr (fh397.weak (weak_PEX (fun _ => rfl)))
                    obtain ⟨f398, E399, G400⟩ := fr_fld fh397 ta0 (by decide) eh386 gh386
                    obtain ⟨f401, E402, G403⟩ := fr_fld fh397 ta0 (by decide) ef393 gf393
                    refine tt_aload_n (pc := 86) dX7_lay_86 (.tail _ (.head _)) ?_
                    refine tw_getr (pc := 87) dX7_lay_87 flX7_16 wh397 ta0 (by decide) rfl (fun f404 q405 ef404 gf404 tq405 => ?_)
                    refine tt_iload_n (pc := 90) dX7_lay_90 (.tail _ (.tail _ (.head _))) ?_
                    refine tt_iload_n (pc := 91) dX7_lay_91 (.tail _ (.tail _ (.tail _ (.head _)))) ?_
                    refine tt_iload_n (pc := 92) dX7_lay_92 (.tail _ (.tail _ (.tail _ (.tail _ (.head _))))) ?_
                    refine tw_icmp (tgt := 100) (pc := 93) dX7_lay_93 (by decide) (fun (c406 : a3.toInt ≤ a2.toInt) => ?_) (fun (c406 : ¬ (a3.toInt ≤ a2.toInt)) => ?_)
                    · skip
                      refine tt_iload_n (pc := 100) dX7_lay_100 (.tail _ (.tail _ (.tail _ (.tail _ (.head _))))) ?_
                      refine tw_ist (P := (PEX 34)) (pc := 101) dX7_lay_101 wh397 tq405 rfl (by omega) (by omega) (by omega) (by omega) (by decide) (fun f407 h408 eh408 gh408 kh408 wh408 fh408 => ?_)
                      have hfh408 := hfh397.tr (fh408.weak (weak_PEX (fun _ => rfl)))
                      obtain ⟨f409, E410, G411⟩ := fr_fld fh408 ta0 (by decide) E399 G400
                      obtain ⟨f412, E413, G414⟩ := fr_fld fh408 ta0 (by decide) E402 G403
                      have E415 := fr_arrI fh408 tq394 (by decide) gh397
                      obtain ⟨f416, E417, G418⟩ := fr_fld fh408 ta0 (by decide) ef404 gf404
                      refine tt_aload_n (pc := 102) dX7_lay_102 (.tail _ (.head _)) ?_
                      refine tw_getr (pc := 103) dX7_lay_103 flX7_20 wh408 ta0 (by decide) rfl (fun f419 q420 ef419 gf419 tq420 => ?_)
                      refine tt_iload_n (pc := 106) dX7_lay_106 (.tail _ (.tail _ (.head _))) ?_
                      refine tt_iload_n (pc := 107) dX7_lay_107 (.tail _ (.tail _ (.tail _ (.head _)))) ?_
                      refine tt_iload_n (pc := 108) dX7_lay_108 (.tail _ (.tail _ (.tail _ (.tail _ (.head _))))) ?_
                      refine tw_icmp (tgt := 116) (pc := 109) dX7_lay_109 (by decide) (fun (c421 : a3.toInt ≤ a2.toInt) => ?_) (fun (c421 : ¬ (a3.toInt ≤ a2.toInt)) => ?_)
                      · skip
                        refine tt_iload_n (pc := 116) dX7_lay_116 (.tail _ (.tail _ (.tail _ (.head _)))) ?_
                        refine tw_ist (P := (PEX 35)) (pc := 117) dX7_lay_117 wh408 tq420 rfl (by omega) (by omega) (by omega) (by omega) (by decide) (fun f422 h423 eh423 gh423 kh423 wh423 fh423 => ?_)
                        have hfh423 := hfh408.tr (fh423.weak (weak_PEX (fun _ => rfl)))
                        obtain ⟨f424, E425, G426⟩ := fr_fld fh423 ta0 (by decide) E410 G411
                        obtain ⟨f427, E428, G429⟩ := fr_fld fh423 ta0 (by decide) E413 G414
                        have E430 := fr_arrI fh423 tq394 (by decide) E415
                        obtain ⟨f431, E432, G433⟩ := fr_fld fh423 ta0 (by decide) E417 G418
                        have E434 := fr_arrI fh423 tq405 (by decide) gh408
                        obtain ⟨f435, E436, G437⟩ := fr_fld fh423 ta0 (by decide) ef419 gf419
                        refine tt_aload_n (pc := 118) dX7_lay_118 (.tail _ (.head _)) ?_
                        refine tw_getr (pc := 119) dX7_lay_119 flX7_23 wh423 ta0 (by decide) rfl (fun f438 q439 ef438 gf438 tq439 => ?_)
                        refine tt_iload_n (pc := 122) dX7_lay_122 (.tail _ (.tail _ (.head _))) ?_
                        refine tt_iload (pc := 123) dX7_lay_123 (.tail _ (.tail _ (.tail _ (.tail _ (.tail _ (.head _)))))) ?_
                        refine tw_ist (P := (PEX 36)) (pc := 125) dX7_lay_125 wh423 tq439 rfl (by omega) (by omega) (by omega) (by omega) (by decide) (fun f440 h441 eh441 gh441 kh441 wh441 fh441 => ?_)
                        have hfh441 := hfh423.tr (fh441.weak (weak_PEX (fun _ => rfl)))
                        obtain ⟨f442, E443, G444⟩ := fr_fld fh441 ta0 (by decide) E425 G426
                        obtain ⟨f445, E446, G447⟩ := fr_fld fh441 ta0 (by decide) E428 G429
                        have E448 := fr_arrI fh441 tq394 (by decide) E430
                        obtain ⟨f449, E450, G451⟩ := fr_fld fh441 ta0 (by decide) E432 G433
                        have E452 := fr_arrI fh441 tq405 (by decide) E434
                        obtain ⟨f453, E454, G455⟩ := fr_fld fh441 ta0 (by decide) E436 G437
                        have E456 := fr_arrI fh441 tq420 (by decide) gh423
                        obtain ⟨f457, E458, G459⟩ := fr_fld fh441 ta0 (by decide) ef438 gf438
                        refine tt_stop ?_
                        rw [hQ]
                        have ek : q394 = q344 := wh441.2.2.2 _ _ 32 (by decide) tq394 tq344
                        have eo : f396 = f346 := by
                          have z1 := fr_arrB fh386 tq394 (by decide) eh397
                          rw [ek, ef346] at z1
                          cases z1
                          rfl
                        have gn := E448
                        rw [ek, eo] at gn
                        exact Or.inl ⟨dX7_lay_126, rfl, rfl, wh441, hfh441, rfl, x389, ⟨_, E443, G444⟩, Or.inr (Or.inr ⟨⟨by omega, by omega, by omega, by omega, by omega, by omega⟩, by omega, by omega, by omega, by omega, q344, f346, x345, x395, tq344, ef346, gf346, by omega, gn, by omega⟩)⟩
                      · skip
                        refine tt_iload_n (pc := 112) dX7_lay_112 (.tail _ (.tail _ (.tail _ (.tail _ (.head _))))) ?_
                        refine tt_goto (tgt := 117) (pc := 113) dX7_lay_113 (by decide) ?_
                        refine tw_ist (P := (PEX 35)) (pc := 117) dX7_lay_117 wh408 tq420 rfl (by omega) (by omega) (by omega) (by omega) (by decide) (fun f460 h461 eh461 gh461 kh461 wh461 fh461 => ?_)
                        have hfh461 := hfh408.tr (fh461.weak (weak_PEX (fun _ => rfl)))
                        obtain ⟨f462, E463, G464⟩ := fr_fld fh461 ta0 (by decide) E410 G411
                        obtain ⟨f465, E466, G467⟩ := fr_fld fh461 ta0 (by decide) E413 G414
                        have E468 := fr_arrI fh461 tq394 (by decide) E415
                        obtain ⟨f469, E470, G471⟩ := fr_fld fh461 ta0 (by decide) E417 G418
                        have E472 := fr_arrI fh461 tq405 (by decide) gh408
                        obtain ⟨f473, E474, G475⟩ := fr_fld fh461 ta0 (by decide) ef419 gf419
                        refine tt_aload_n (pc := 118) dX7_lay_118 (.tail _ (.head _)) ?_
                        refine tw_getr (pc := 119) dX7_lay_119 flX7_23 wh461 ta0 (by decide) rfl (fun f476 q477 ef476 gf476 tq477 => ?_)
                        refine tt_iload_n (pc := 122) dX7_lay_122 (.tail _ (.tail _ (.head _))) ?_
                        refine tt_iload (pc := 123) dX7_lay_123 (.tail _ (.tail _ (.tail _ (.tail _ (.tail _ (.head _)))))) ?_
                        refine tw_ist (P := (PEX 36)) (pc := 125) dX7_lay_125 wh461 tq477 rfl (by omega) (by omega) (by omega) (by omega) (by decide) (fun f478 h479 eh479 gh479 kh479 wh479 fh479 => ?_)
                        have hfh479 := hfh461.tr (fh479.weak (weak_PEX (fun _ => rfl)))
                        obtain ⟨f480, E481, G482⟩ := fr_fld fh479 ta0 (by decide) E463 G464
                        obtain ⟨f483, E484, G485⟩ := fr_fld fh479 ta0 (by decide) E466 G467
                        have E486 := fr_arrI fh479 tq394 (by decide) E468
                        obtain ⟨f487, E488, G489⟩ := fr_fld fh479 ta0 (by decide) E470 G471
                        have E490 := fr_arrI fh479 tq405 (by decide) E472
                        obtain ⟨f491, E492, G493⟩ := fr_fld fh479 ta0 (by decide) E474 G475
                        have E494 := fr_arrI fh479 tq420 (by decide) gh461
                        obtain ⟨f495, E496, G497⟩ := fr_fld fh479 ta0 (by decide) ef476 gf476
                        refine tt_stop ?_
                        rw [hQ]
                        have ek : q394 = q344 := wh479.2.2.2 _ _ 32 (by decide) tq394 tq344
                        have eo : f396 = f346 := by
                          have z1 := fr_arrB fh386 tq394 (by decide) eh397
                          rw [ek, ef346] at z1
                          cases z1
                          rfl
                        have gn := E486
                        rw [ek, eo] at gn
                        exact Or.inl ⟨dX7_lay_126, rfl, rfl, wh479, hfh479, rfl, x389, ⟨_, E481, G482⟩, Or.inr (Or.inr ⟨⟨by omega, by omega, by omega, by omega, by omega, by omega⟩, by omega, by omega, by omega, by omega, q344, f346, x345, x395, tq344, ef346, gf346, by omega, gn, by omega⟩)⟩
                    · skip
                      refine tt_iload_n (pc := 96) dX7_lay_96 (.tail _ (.tail _ (.tail _ (.head _)))) ?_
                      refine tt_goto (tgt := 101) (pc := 97) dX7_lay_97 (by decide) ?_
                      refine tw_ist (P := (PEX 34)) (pc := 101) dX7_lay_101 wh397 tq405 rfl (by omega) (by omega) (by omega) (by omega) (by decide) (fun f498 h499 eh499 gh499 kh499 wh499 fh499 => ?_)
                      have hfh499 := hfh397.tr (fh499.weak (weak_PEX (fun _ => rfl)))
                      obtain ⟨f500, E501, G502⟩ := fr_fld fh499 ta0 (by decide) E399 G400
                      obtain ⟨f503, E504, G505⟩ := fr_fld fh499 ta0 (by decide) E402 G403
                      have E506 := fr_arrI fh499 tq394 (by decide) gh397
                      obtain ⟨f507, E508, G509⟩ := fr_fld fh499 ta0 (by decide) ef404 gf404
                      refine tt_aload_n (pc := 102) dX7_lay_102 (.tail _ (.head _)) ?_
                      refine tw_getr (pc := 103) dX7_lay_103 flX7_20 wh499 ta0 (by decide) rfl (fun f510 q511 ef510 gf510 tq511 => ?_)
                      refine tt_iload_n (pc := 106) dX7_lay_106 (.tail _ (.tail _ (.head _))) ?_
                      refine tt_iload_n (pc := 107) dX7_lay_107 (.tail _ (.tail _ (.tail _ (.head _)))) ?_
                      refine tt_iload_n (pc := 108) dX7_lay_108 (.tail _ (.tail _ (.tail _ (.tail _ (.head _))))) ?_
                      refine tw_icmp (tgt := 116) (pc := 109) dX7_lay_109 (by decide) (fun (c512 : a3.toInt ≤ a2.toInt) => ?_) (fun (c512 : ¬ (a3.toInt ≤ a2.toInt)) => ?_)
                      · skip
                        refine tt_iload_n (pc := 116) dX7_lay_116 (.tail _ (.tail _ (.tail _ (.head _)))) ?_
                        refine tw_ist (P := (PEX 35)) (pc := 117) dX7_lay_117 wh499 tq511 rfl (by omega) (by omega) (by omega) (by omega) (by decide) (fun f513 h514 eh514 gh514 kh514 wh514 fh514 => ?_)
                        have hfh514 := hfh499.tr (fh514.weak (weak_PEX (fun _ => rfl)))
                        obtain ⟨f515, E516, G517⟩ := fr_fld fh514 ta0 (by decide) E501 G502
                        obtain ⟨f518, E519, G520⟩ := fr_fld fh514 ta0 (by decide) E504 G505
                        have E521 := fr_arrI fh514 tq394 (by decide) E506
                        obtain ⟨f522, E523, G524⟩ := fr_fld fh514 ta0 (by decide) E508 G509
                        have E525 := fr_arrI fh514 tq405 (by decide) gh499
                        obtain ⟨f526, E527, G528⟩ := fr_fld fh514 ta0 (by decide) ef510 gf510
                        refine tt_aload_n (pc := 118) dX7_lay_118 (.tail _ (.head _)) ?_
                        refine tw_getr (pc := 119) dX7_lay_119 flX7_23 wh514 ta0 (by decide) rfl (fun f529 q530 ef529 gf529 tq530 => ?_)
                        refine tt_iload_n (pc := 122) dX7_lay_122 (.tail _ (.tail _ (.head _))) ?_
                        refine tt_iload (pc := 123) dX7_lay_123 (.tail _ (.tail _ (.tail _ (.tail _ (.tail _ (.head _)))))) ?_
                        refine tw_ist (P := (PEX 36)) (pc := 125) dX7_lay_125 wh514 tq530 rfl (by omega) (by omega) (by omega) (by omega) (by decide) (fun f531 h532 eh532 gh532 kh532 wh532 fh532 => ?_)
                        have hfh532 := hfh514.tr (fh532.weak (weak_PEX (fun _ => rfl)))
                        obtain ⟨f533, E534, G535⟩ := fr_fld fh532 ta0 (by decide) E516 G517
                        obtain ⟨f536, E537, G538⟩ := fr_fld fh532 ta0 (by decide) E519 G520
                        have E539 := fr_arrI fh532 tq394 (by decide) E521
                        obtain ⟨f540, E541, G542⟩ := fr_fld fh532 ta0 (by decide) E523 G524
                        have E543 := fr_arrI fh532 tq405 (by decide) E525
                        obtain ⟨f544, E545, G546⟩ := fr_fld fh532 ta0 (by decide) E527 G528
                        have E547 := fr_arrI fh532 tq511 (by decide) gh514
                        obtain ⟨f548, E549, G550⟩ := fr_fld fh532 ta0 (by decide) ef529 gf529
                        refine tt_stop ?_
                        rw [hQ]
                        have ek : q394 = q344 := wh532.2.2.2 _ _ 32 (by decide) tq394 tq344
                        have eo : f396 = f346 := by
                          have z1 := fr_arrB fh386 tq394 (by decide) eh397
                          rw [ek, ef346] at z1
                          cases z1
                          rfl
                        have gn := E539
                        rw [ek, eo] at gn
                        exact Or.inl ⟨dX7_lay_126, rfl, rfl, wh532, hfh532, rfl, x389, ⟨_, E534, G535⟩, Or.inr (Or.inr ⟨⟨by omega, by omega, by omega, by omega, by omega, by omega⟩, by omega, by omega, by omega, by omega, q344, f346, x345, x395, tq344, ef346, gf346, by omega, gn, by omega⟩)⟩
                      · skip
                        refine tt_iload_n (pc := 112) dX7_lay_112 (.tail _ (.tail _ (.tail _ (.tail _ (.head _))))) ?_
                        refine tt_goto (tgt := 117) (pc := 113) dX7_lay_113 (by decide) ?_
                        refine tw_ist (P := (PEX 35)) (pc := 117) dX7_lay_117 wh499 tq511 rfl (by omega) (by omega) (by omega) (by omega) (by decide) (fun f551 h552 eh552 gh552 kh552 wh552 fh552 => ?_)
                        have hfh552 := hfh499.tr (fh552.weak (weak_PEX (fun _ => rfl)))
                        obtain ⟨f553, E554, G555⟩ := fr_fld fh552 ta0 (by decide) E501 G502
                        obtain ⟨f556, E557, G558⟩ := fr_fld fh552 ta0 (by decide) E504 G505
                        have E559 := fr_arrI fh552 tq394 (by decide) E506
                        obtain ⟨f560, E561, G562⟩ := fr_fld fh552 ta0 (by decide) E508 G509
                        have E563 := fr_arrI fh552 tq405 (by decide) gh499
                        obtain ⟨f564, E565, G566⟩ := fr_fld fh552 ta0 (by decide) ef510 gf510
                        refine tt_aload_n (pc := 118) dX7_lay_118 (.tail _ (.head _)) ?_
                        refine tw_getr (pc := 119) dX7_lay_119 flX7_23 wh552 ta0 (by decide) rfl (fun f567 q568 ef567 gf567 tq568 => ?_)
                        refine tt_iload_n (pc := 122) dX7_lay_122 (.tail _ (.tail _ (.head _))) ?_
                        refine tt_iload (pc := 123) dX7_lay_123 (.tail _ (.tail _ (.tail _ (.tail _ (.tail _ (.head _)))))) ?_
                        refine tw_ist (P := (PEX 36)) (pc := 125) dX7_lay_125 wh552 tq568 rfl (by omega) (by omega) (by omega) (by omega) (by decide) (fun f569 h570 eh570 gh570 kh570 wh570 fh570 => ?_)
                        have hfh570 := hfh552.tr (fh570.weak (weak_PEX (fun _ => rfl)))
                        obtain ⟨f571, E572, G573⟩ := fr_fld fh570 ta0 (by decide) E554 G555
                        obtain ⟨f574, E575, G576⟩ := fr_fld fh570 ta0 (by decide) E557 G558
                        have E577 := fr_arrI fh570 tq394 (by decide) E559
                        obtain ⟨f578, E579, G580⟩ := fr_fld fh570 ta0 (by decide) E561 G562
                        have E581 := fr_arrI fh570 tq405 (by decide) E563
                        obtain ⟨f582, E583, G584⟩ := fr_fld fh570 ta0 (by decide) E565 G566
                        have E585 := fr_arrI fh570 tq511 (by decide) gh552
                        obtain ⟨f586, E587, G588⟩ := fr_fld fh570 ta0 (by decide) ef567 gf567
                        refine tt_stop ?_
                        rw [hQ]
                        have ek : q394 = q344 := wh570.2.2.2 _ _ 32 (by decide) tq394 tq344
                        have eo : f396 = f346 := by
                          have z1 := fr_arrB fh386 tq394 (by decide) eh397
                          rw [ek, ef346] at z1
                          cases z1
                          rfl
                        have gn := E577
                        rw [ek, eo] at gn
                        exact Or.inl ⟨dX7_lay_126, rfl, rfl, wh570, hfh570, rfl, x389, ⟨_, E572, G573⟩, Or.inr (Or.inr ⟨⟨by omega, by omega, by omega, by omega, by omega, by omega⟩, by omega, by omega, by omega, by omega, q344, f346, x345, x395, tq344, ef346, gf346, by omega, gn, by omega⟩)⟩
                  · skip
                    refine tt_stop ?_
                    rw [hQ]
                    exact Or.inl ⟨dX7_lay_78, rfl, rfl, wh386, hfh386, rfl, x389, ⟨_, eh386, gh386⟩, Or.inr (Or.inl ⟨⟨by omega, by omega, by omega, by omega, by omega, by omega⟩, by omega, fh386, (by first | exact Or.inl (by omega) | exact Or.inr (Or.inl (by omega)) | exact Or.inr (Or.inr (Or.inl (by omega))))⟩)⟩
