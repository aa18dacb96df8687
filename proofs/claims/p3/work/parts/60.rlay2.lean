set_option maxHeartbeats 4000000 in
theorem g_X7_layI {l : Launch} {D : va_G} {N : Nat} {pk : Int} {τ : List Nat} (hN2 : 2 ≤ N) (hN8 : N ≤ 8) (hp0 : 0 ≤ pk) (hp64 : pk ≤ 64) {h : List tC} (hw : WT N pk τ h) (a0 : Nat) (ta0 : τ[a0]? = some 7) (a1 : Int32) (a2 : Int32) (a3 : Int32) (a4 : Int32) (hI : I1 τ h) (hI2 : I2 τ h) : TMc l D yX7_lay cX7_lay 6 none 2 42 0 0 [.inr (some a0), .inl a1, .inl a2, .inl a3, .inl a4] h (fun rv h' => WT N pk τ h' ∧ Fr PMlay τ h h' ∧ I1 τ h' ∧ rv = none ∧ ∃ t : Int32, THR h' a0 t ∧ ((¬ (0 ≤ a1.toInt ∧ a1.toInt ≤ 11 ∧ 0 ≤ a2.toInt ∧ a2.toInt ≤ (N : Int) - 1 ∧ 0 ≤ a3.toInt ∧ a3.toInt ≤ (N : Int) - 1) ∧ t.toInt = 1 ∧ Fr PMg τ h h') ∨ ((0 ≤ a1.toInt ∧ a1.toInt ≤ 11 ∧ 0 ≤ a2.toInt ∧ a2.toInt ≤ (N : Int) - 1 ∧ 0 ≤ a3.toInt ∧ a3.toInt ≤ (N : Int) - 1) ∧ t.toInt = 2 ∧ Fr PMg τ h h' ∧ (a2.toInt = a3.toInt ∨ a4.toInt < 1 ∨ 60 < a4.toInt ∨ ∃ (k : Nat) (xs : List Int32) (v : Int32), τ[k]? = some 32 ∧ h[k]? = some (.inl (1, xs)) ∧ xs[a1.toNatClampNeg]? = some v ∧ v.toInt ≠ 0)) ∨ ((0 ≤ a1.toInt ∧ a1.toInt ≤ 11 ∧ 0 ≤ a2.toInt ∧ a2.toInt ≤ (N : Int) - 1 ∧ 0 ≤ a3.toInt ∧ a3.toInt ≤ (N : Int) - 1) ∧ t.toInt = 0 ∧ a2.toInt ≠ a3.toInt ∧ 1 ≤ a4.toInt ∧ a4.toInt ≤ 60 ∧ ∃ (k : Nat) (xs : List Int32) (v o : Int32), τ[k]? = some 32 ∧ h[k]? = some (.inl (1, xs)) ∧ xs[a1.toNatClampNeg]? = some v ∧ v.toInt = 0 ∧ h'[k]? = some (.inl (1, xs.set a1.toNatClampNeg o)) ∧ o.toInt = 1))) := by
  refine tmc_of false rfl (by decide) (Nat.le_of_ble_eq_true rfl) ?_
  suffices HQ : ∀ Q0, Q0 = tRt cX7_lay none (fun rv h' => WT N pk τ h' ∧ Fr PMlay τ h h' ∧ I1 τ h' ∧ rv = none ∧ ∃ t : Int32, THR h' a0 t ∧ ((¬ (0 ≤ a1.toInt ∧ a1.toInt ≤ 11 ∧ 0 ≤ a2.toInt ∧ a2.toInt ≤ (N : Int) - 1 ∧ 0 ≤ a3.toInt ∧ a3.toInt ≤ (N : Int) - 1) ∧ t.toInt = 1 ∧ Fr PMg τ h h') ∨ ((0 ≤ a1.toInt ∧ a1.toInt ≤ 11 ∧ 0 ≤ a2.toInt ∧ a2.toInt ≤ (N : Int) - 1 ∧ 0 ≤ a3.toInt ∧ a3.toInt ≤ (N : Int) - 1) ∧ t.toInt = 2 ∧ Fr PMg τ h h' ∧ (a2.toInt = a3.toInt ∨ a4.toInt < 1 ∨ 60 < a4.toInt ∨ ∃ (k : Nat) (xs : List Int32) (v : Int32), τ[k]? = some 32 ∧ h[k]? = some (.inl (1, xs)) ∧ xs[a1.toNatClampNeg]? = some v ∧ v.toInt ≠ 0)) ∨ ((0 ≤ a1.toInt ∧ a1.toInt ≤ 11 ∧ 0 ≤ a2.toInt ∧ a2.toInt ≤ (N : Int) - 1 ∧ 0 ≤ a3.toInt ∧ a3.toInt ≤ (N : Int) - 1) ∧ t.toInt = 0 ∧ a2.toInt ≠ a3.toInt ∧ 1 ≤ a4.toInt ∧ a4.toInt ≤ 60 ∧ ∃ (k : Nat) (xs : List Int32) (v o : Int32), τ[k]? = some 32 ∧ h[k]? = some (.inl (1, xs)) ∧ xs[a1.toNatClampNeg]? = some v ∧ v.toInt = 0 ∧ h'[k]? = some (.inl (1, xs.set a1.toNatClampNeg o)) ∧ o.toInt = 1))) → TT l D mX7_lay Q0 0 0 0 [(0, .inr (some a0)), (1, .inl a1), (2, .inl a2), (3, .inl a3), (4, .inl a4)] [] h from HQ _ rfl
  intro Q0 hQ
  have hf : Fr PMlay τ h h := Fr.rf
  have ba1 := i_ty a1
  have ba2 := i_ty a2
  have ba3 := i_ty a3
  have ba4 := i_ty a4
  refine tt_iload_n (pc := 0) dX7_lay_0 (.tail _ (.head _)) ?_
  refine tw_bipush (pc := 1) dX7_lay_1 (by decide) (fun x295 ex295 => ?_)
  refine tt_callS (kc := 0) (ks := 0) (mc := 0) (ms := 0) (as := [.inl a1, .inl x295]) (st := []) (pc := 3) dX7_lay_3 lkX7_99 smX7_in rfl (by decide) (by decide) (Nat.le_of_ble_eq_true rfl) (g_X7_in hN2 hN8 hp0 hp64 hw a1 x295) (fun rv h296 qh296 => ?_)
  obtain ⟨rfl, x297, rfl, lx297, ux297, Gx297, Zx297⟩ := qh296
  show TT _ _ _ _ _ _ _ _ [.inl x297] _
  refine tw_if (tgt := 29) (pc := 6) dX7_lay_6 (by decide) (fun (c300 : x297.toInt = 0) => ?_) (fun (c300 : ¬ (x297.toInt = 0)) => ?_)
  · skip
    refine tw_iconst (pc := 29) dX7_lay_29 (by decide) (fun x301 ex301 => ?_)
    refine tt_istore (pc := 30) dX7_lay_30 (by decide) ?_
    show TT _ _ _ _ _ _ _ [(5, .inl x301), (0, .inr (some a0)), (1, .inl a1), (2, .inl a2), (3, .inl a3), (4, .inl a4)] _ _
    refine tt_aload_n (pc := 32) dX7_lay_32 (.tail _ (.head _)) ?_
    refine tt_iload (pc := 33) dX7_lay_33 (.head _) ?_
    refine tt_iload (pc := 35) dX7_lay_35 (.head _) ?_
    refine tw_if (tgt := 71) (pc := 37) dX7_lay_37 (by decide) (fun (c302 : x301.toInt = 0) => ?_) (fun (c302 : ¬ (x301.toInt = 0)) => ?_)
    · skip
      refine tw_iconst (pc := 71) dX7_lay_71 (by decide) (fun x303 ex303 => ?_)
      refine tw_callV (kc := 0) (ks := 0) (mc := 0) (ms := 0) (as := [.inl x301, .inl x303]) (st := []) (pc := 72) hw ta0 (by decide) dX7_lay_72 lkX7_193 imX7_goes seX7_goes rfl rfl (by decide) (by decide) (Nat.le_of_ble_eq_true rfl) (g_X7_goesE hN2 hN8 hp0 hp64 hw a0 ta0 x301 (by omega) (by omega) x303 (by omega) (by omega)) (fun rv h304 qh304 => ?_)
      obtain ⟨wh304, fh304, x306, x307, rfl, ⟨fsh304, eh304, gh304⟩, ⟨lx306, ux306⟩, Ah304, Bh304, Ch304⟩ := qh304
      have hfh304 := hf.tr (fh304.weak weak_PMg_PMlay)
      have Jh304 := i1_fr fh304 (by decide) (by decide) (by decide) (by decide) hI
      show TT _ _ _ _ _ _ _ _ [.inl x306] _
      refine tw_if (tgt := 79) (pc := 75) dX7_lay_75 (by decide) (fun (c310 : x306.toInt ≠ 0) => ?_) (fun (c310 : ¬ (x306.toInt ≠ 0)) => ?_)
      · skip
        exfalso
        omega
      · skip
        refine tt_stop ?_
        rw [hQ]
        exact Or.inl ⟨dX7_lay_78, rfl, rfl, wh304, hfh304, Jh304, rfl, x307, ⟨_, eh304, gh304⟩, Or.inl ⟨by omega, by omega, fh304⟩⟩
    · skip
      exfalso
      omega
  · skip
    obtain ⟨b298, b299⟩ := Gx297 (by omega)
    refine tt_aload_n (pc := 9) dX7_lay_9 (.head _) ?_
    refine tt_iload_n (pc := 10) dX7_lay_10 (.tail _ (.tail _ (.head _))) ?_
    refine tw_callV (kc := 0) (ks := 0) (mc := 0) (ms := 0) (as := [.inl a2]) (st := []) (pc := 11) hw ta0 (by decide) dX7_lay_11 lkX7_189 imX7_isRouter seX7_isRouter rfl rfl (by decide) (by decide) (Nat.le_of_ble_eq_true rfl) (g_X7_isRouter hN2 hN8 hp0 hp64 hw a0 ta0 a2) (fun rv h311 qh311 => ?_)
    obtain ⟨rfl, x312, rfl, lx312, ux312, Gx312, Zx312⟩ := qh311
    show TT _ _ _ _ _ _ _ _ [.inl x312] _
    refine tw_if (tgt := 29) (pc := 14) dX7_lay_14 (by decide) (fun (c315 : x312.toInt = 0) => ?_) (fun (c315 : ¬ (x312.toInt = 0)) => ?_)
    · skip
      refine tw_iconst (pc := 29) dX7_lay_29 (by decide) (fun x316 ex316 => ?_)
      refine tt_istore (pc := 30) dX7_lay_30 (by decide) ?_
      show TT _ _ _ _ _ _ _ [(5, .inl x316), (0, .inr (some a0)), (1, .inl a1), (2, .inl a2), (3, .inl a3), (4, .inl a4)] _ _
      refine tt_aload_n (pc := 32) dX7_lay_32 (.tail _ (.head _)) ?_
      refine tt_iload (pc := 33) dX7_lay_33 (.head _) ?_
      refine tt_iload (pc := 35) dX7_lay_35 (.head _) ?_
      refine tw_if (tgt := 71) (pc := 37) dX7_lay_37 (by decide) (fun (c317 : x316.toInt = 0) => ?_) (fun (c317 : ¬ (x316.toInt = 0)) => ?_)
      · skip
        refine tw_iconst (pc := 71) dX7_lay_71 (by decide) (fun x318 ex318 => ?_)
        refine tw_callV (kc := 0) (ks := 0) (mc := 0) (ms := 0) (as := [.inl x316, .inl x318]) (st := []) (pc := 72) hw ta0 (by decide) dX7_lay_72 lkX7_193 imX7_goes seX7_goes rfl rfl (by decide) (by decide) (Nat.le_of_ble_eq_true rfl) (g_X7_goesE hN2 hN8 hp0 hp64 hw a0 ta0 x316 (by omega) (by omega) x318 (by omega) (by omega)) (fun rv h319 qh319 => ?_)
        obtain ⟨wh319, fh319, x321, x322, rfl, ⟨fsh319, eh319, gh319⟩, ⟨lx321, ux321⟩, Ah319, Bh319, Ch319⟩ := qh319
        have hfh319 := hf.tr (fh319.weak weak_PMg_PMlay)
        have Jh319 := i1_fr fh319 (by decide) (by decide) (by decide) (by decide) hI
        show TT _ _ _ _ _ _ _ _ [.inl x321] _
        refine tw_if (tgt := 79) (pc := 75) dX7_lay_75 (by decide) (fun (c325 : x321.toInt ≠ 0) => ?_) (fun (c325 : ¬ (x321.toInt ≠ 0)) => ?_)
        · skip
          exfalso
          omega
        · skip
          refine tt_stop ?_
          rw [hQ]
          exact Or.inl ⟨dX7_lay_78, rfl, rfl, wh319, hfh319, Jh319, rfl, x322, ⟨_, eh319, gh319⟩, Or.inl ⟨by omega, by omega, fh319⟩⟩
      · skip
        exfalso
        omega
    · skip
      obtain ⟨b313, b314⟩ := Gx312 (by omega)
      refine tt_aload_n (pc := 17) dX7_lay_17 (.head _) ?_
      refine tt_iload_n (pc := 18) dX7_lay_18 (.tail _ (.tail _ (.tail _ (.head _)))) ?_
      refine tw_callV (kc := 0) (ks := 0) (mc := 0) (ms := 0) (as := [.inl a3]) (st := []) (pc := 19) hw ta0 (by decide) dX7_lay_19 lkX7_189 imX7_isRouter seX7_isRouter rfl rfl (by decide) (by decide) (Nat.le_of_ble_eq_true rfl) (g_X7_isRouter hN2 hN8 hp0 hp64 hw a0 ta0 a3) (fun rv h326 qh326 => ?_)
      obtain ⟨rfl, x327, rfl, lx327, ux327, Gx327, Zx327⟩ := qh326
      show TT _ _ _ _ _ _ _ _ [.inl x327] _
      refine tw_if (tgt := 29) (pc := 22) dX7_lay_22 (by decide) (fun (c330 : x327.toInt = 0) => ?_) (fun (c330 : ¬ (x327.toInt = 0)) => ?_)
      · skip
        refine tw_iconst (pc := 29) dX7_lay_29 (by decide) (fun x331 ex331 => ?_)
        refine tt_istore (pc := 30) dX7_lay_30 (by decide) ?_
        show TT _ _ _ _ _ _ _ [(5, .inl x331), (0, .inr (some a0)), (1, .inl a1), (2, .inl a2), (3, .inl a3), (4, .inl a4)] _ _
        refine tt_aload_n (pc := 32) dX7_lay_32 (.tail _ (.head _)) ?_
        refine tt_iload (pc := 33) dX7_lay_33 (.head _) ?_
        refine tt_iload (pc := 35) dX7_lay_35 (.head _) ?_
        refine tw_if (tgt := 71) (pc := 37) dX7_lay_37 (by decide) (fun (c332 : x331.toInt = 0) => ?_) (fun (c332 : ¬ (x331.toInt = 0)) => ?_)
        · skip
          refine tw_iconst (pc := 71) dX7_lay_71 (by decide) (fun x333 ex333 => ?_)
          refine tw_callV (kc := 0) (ks := 0) (mc := 0) (ms := 0) (as := [.inl x331, .inl x333]) (st := []) (pc := 72) hw ta0 (by decide) dX7_lay_72 lkX7_193 imX7_goes seX7_goes rfl rfl (by decide) (by decide) (Nat.le_of_ble_eq_true rfl) (g_X7_goesE hN2 hN8 hp0 hp64 hw a0 ta0 x331 (by omega) (by omega) x333 (by omega) (by omega)) (fun rv h334 qh334 => ?_)
          obtain ⟨wh334, fh334, x336, x337, rfl, ⟨fsh334, eh334, gh334⟩, ⟨lx336, ux336⟩, Ah334, Bh334, Ch334⟩ := qh334
          have hfh334 := hf.tr (fh334.weak weak_PMg_PMlay)
          have Jh334 := i1_fr fh334 (by decide) (by decide) (by decide) (by decide) hI
          show TT _ _ _ _ _ _ _ _ [.inl x336] _
          refine tw_if (tgt := 79) (pc := 75) dX7_lay_75 (by decide) (fun (c340 : x336.toInt ≠ 0) => ?_) (fun (c340 : ¬ (x336.toInt ≠ 0)) => ?_)
          · skip
            exfalso
            omega
          · skip
            refine tt_stop ?_
            rw [hQ]
            exact Or.inl ⟨dX7_lay_78, rfl, rfl, wh334, hfh334, Jh334, rfl, x337, ⟨_, eh334, gh334⟩, Or.inl ⟨by omega, by omega, fh334⟩⟩
        · skip
          exfalso
          omega
      · skip
        obtain ⟨b328, b329⟩ := Gx327 (by omega)
        refine tw_iconst (pc := 25) dX7_lay_25 (by decide) (fun x341 ex341 => ?_)
        refine tt_goto (tgt := 30) (pc := 26) dX7_lay_26 (by decide) ?_
        refine tt_istore (pc := 30) dX7_lay_30 (by decide) ?_
        show TT _ _ _ _ _ _ _ [(5, .inl x341), (0, .inr (some a0)), (1, .inl a1), (2, .inl a2), (3, .inl a3), (4, .inl a4)] _ _
        refine tt_aload_n (pc := 32) dX7_lay_32 (.tail _ (.head _)) ?_
        refine tt_iload (pc := 33) dX7_lay_33 (.head _) ?_
        refine tt_iload (pc := 35) dX7_lay_35 (.head _) ?_
        refine tw_if (tgt := 71) (pc := 37) dX7_lay_37 (by decide) (fun (c342 : x341.toInt = 0) => ?_) (fun (c342 : ¬ (x341.toInt = 0)) => ?_)
        · skip
          exfalso
          omega
        · skip
          refine tt_aload_n (pc := 40) dX7_lay_40 (.tail _ (.head _)) ?_
          refine tw_getr (pc := 41) dX7_lay_41 flX7_7 hw ta0 (by decide) rfl (fun f343 q344 ef343 gf343 tq344 => ?_)
          refine tt_iload_n (pc := 44) dX7_lay_44 (.tail _ (.tail _ (.head _))) ?_
          refine tw_zld (pc := 45) dX7_lay_45 hw tq344 rfl (by omega) (by omega) (fun f346 x345 ef346 gf346 lx345 ux345 => ?_)
          refine tw_if (tgt := 71) (pc := 46) dX7_lay_46 (by decide) (fun (c347 : x345.toInt ≠ 0) => ?_) (fun (c347 : ¬ (x345.toInt ≠ 0)) => ?_)
          · skip
            refine tw_iconst (pc := 71) dX7_lay_71 (by decide) (fun x348 ex348 => ?_)
            refine tw_callV (kc := 0) (ks := 0) (mc := 0) (ms := 0) (as := [.inl x341, .inl x348]) (st := []) (pc := 72) hw ta0 (by decide) dX7_lay_72 lkX7_193 imX7_goes seX7_goes rfl rfl (by decide) (by decide) (Nat.le_of_ble_eq_true rfl) (g_X7_goesE hN2 hN8 hp0 hp64 hw a0 ta0 x341 (by omega) (by omega) x348 (by omega) (by omega)) (fun rv h349 qh349 => ?_)
            obtain ⟨wh349, fh349, x351, x352, rfl, ⟨fsh349, eh349, gh349⟩, ⟨lx351, ux351⟩, Ah349, Bh349, Ch349⟩ := qh349
            have hfh349 := hf.tr (fh349.weak weak_PMg_PMlay)
            have Jh349 := i1_fr fh349 (by decide) (by decide) (by decide) (by decide) hI
            show TT _ _ _ _ _ _ _ _ [.inl x351] _
            refine tw_if (tgt := 79) (pc := 75) dX7_lay_75 (by decide) (fun (c355 : x351.toInt ≠ 0) => ?_) (fun (c355 : ¬ (x351.toInt ≠ 0)) => ?_)
            · skip
              exfalso
              omega
            · skip
              refine tt_stop ?_
              rw [hQ]
              exact Or.inl ⟨dX7_lay_78, rfl, rfl, wh349, hfh349, Jh349, rfl, x352, ⟨_, eh349, gh349⟩, Or.inr (Or.inl ⟨⟨by omega, by omega, by omega, by omega, by omega, by omega⟩, by omega, fh349, Or.inr (Or.inr (Or.inr ⟨q344, _, x345, tq344, ef346, gf346, by omega⟩))⟩)⟩
          · skip
            refine tt_iload_n (pc := 49) dX7_lay_49 (.tail _ (.tail _ (.tail _ (.head _)))) ?_
            refine tt_iload_n (pc := 50) dX7_lay_50 (.tail _ (.tail _ (.tail _ (.tail _ (.head _))))) ?_
            refine tw_icmp (tgt := 71) (pc := 51) dX7_lay_51 (by decide) (fun (c356 : a2.toInt = a3.toInt) => ?_) (fun (c356 : ¬ (a2.toInt = a3.toInt)) => ?_)
            · skip
              refine tw_iconst (pc := 71) dX7_lay_71 (by decide) (fun x357 ex357 => ?_)
              refine tw_callV (kc := 0) (ks := 0) (mc := 0) (ms := 0) (as := [.inl x341, .inl x357]) (st := []) (pc := 72) hw ta0 (by decide) dX7_lay_72 lkX7_193 imX7_goes seX7_goes rfl rfl (by decide) (by decide) (Nat.le_of_ble_eq_true rfl) (g_X7_goesE hN2 hN8 hp0 hp64 hw a0 ta0 x341 (by omega) (by omega) x357 (by omega) (by omega)) (fun rv h358 qh358 => ?_)
              obtain ⟨wh358, fh358, x360, x361, rfl, ⟨fsh358, eh358, gh358⟩, ⟨lx360, ux360⟩, Ah358, Bh358, Ch358⟩ := qh358
              have hfh358 := hf.tr (fh358.weak weak_PMg_PMlay)
              have Jh358 := i1_fr fh358 (by decide) (by decide) (by decide) (by decide) hI
              show TT _ _ _ _ _ _ _ _ [.inl x360] _
              refine tw_if (tgt := 79) (pc := 75) dX7_lay_75 (by decide) (fun (c364 : x360.toInt ≠ 0) => ?_) (fun (c364 : ¬ (x360.toInt ≠ 0)) => ?_)
              · skip
                exfalso
                omega
              · skip
                refine tt_stop ?_
                rw [hQ]
                exact Or.inl ⟨dX7_lay_78, rfl, rfl, wh358, hfh358, Jh358, rfl, x361, ⟨_, eh358, gh358⟩, Or.inr (Or.inl ⟨⟨by omega, by omega, by omega, by omega, by omega, by omega⟩, by omega, fh358, (by first | exact Or.inl (by omega) | exact Or.inr (Or.inl (by omega)) | exact Or.inr (Or.inr (Or.inl (by omega))))⟩)⟩
            · skip
              refine tt_iload (pc := 54) dX7_lay_54 (.tail _ (.tail _ (.tail _ (.tail _ (.tail _ (.head _)))))) ?_
              refine tw_iconst (pc := 56) dX7_lay_56 (by decide) (fun x365 ex365 => ?_)
              refine tw_icmp (tgt := 71) (pc := 57) dX7_lay_57 (by decide) (fun (c366 : a4.toInt < x365.toInt) => ?_) (fun (c366 : ¬ (a4.toInt < x365.toInt)) => ?_)
              · skip
                refine tw_iconst (pc := 71) dX7_lay_71 (by decide) (fun x367 ex367 => ?_)
                refine tw_callV (kc := 0) (ks := 0) (mc := 0) (ms := 0) (as := [.inl x341, .inl x367]) (st := []) (pc := 72) hw ta0 (by decide) dX7_lay_72 lkX7_193 imX7_goes seX7_goes rfl rfl (by decide) (by decide) (Nat.le_of_ble_eq_true rfl) (g_X7_goesE hN2 hN8 hp0 hp64 hw a0 ta0 x341 (by omega) (by omega) x367 (by omega) (by omega)) (fun rv h368 qh368 => ?_)
                obtain ⟨wh368, fh368, x370, x371, rfl, ⟨fsh368, eh368, gh368⟩, ⟨lx370, ux370⟩, Ah368, Bh368, Ch368⟩ := qh368
                have hfh368 := hf.tr (fh368.weak weak_PMg_PMlay)
                have Jh368 := i1_fr fh368 (by decide) (by decide) (by decide) (by decide) hI
                show TT _ _ _ _ _ _ _ _ [.inl x370] _
                refine tw_if (tgt := 79) (pc := 75) dX7_lay_75 (by decide) (fun (c374 : x370.toInt ≠ 0) => ?_) (fun (c374 : ¬ (x370.toInt ≠ 0)) => ?_)
                · skip
                  exfalso
                  omega
                · skip
                  refine tt_stop ?_
                  rw [hQ]
                  exact Or.inl ⟨dX7_lay_78, rfl, rfl, wh368, hfh368, Jh368, rfl, x371, ⟨_, eh368, gh368⟩, Or.inr (Or.inl ⟨⟨by omega, by omega, by omega, by omega, by omega, by omega⟩, by omega, fh368, (by first | exact Or.inl (by omega) | exact Or.inr (Or.inl (by omega)) | exact Or.inr (Or.inr (Or.inl (by omega))))⟩)⟩
              · skip
                refine tt_iload (pc := 60) dX7_lay_60 (.tail _ (.tail _ (.tail _ (.tail _ (.tail _ (.head _)))))) ?_
                refine tw_bipush (pc := 62) dX7_lay_62 (by decide) (fun x375 ex375 => ?_)
                refine tw_icmp (tgt := 71) (pc := 64) dX7_lay_64 (by decide) (fun (c376 : x375.toInt < a4.toInt) => ?_) (fun (c376 : ¬ (x375.toInt < a4.toInt)) => ?_)
                · skip
                  refine tw_iconst (pc := 71) dX7_lay_71 (by decide) (fun x377 ex377 => ?_)
                  refine tw_callV (kc := 0) (ks := 0) (mc := 0) (ms := 0) (as := [.inl x341, .inl x377]) (st := []) (pc := 72) hw ta0 (by decide) dX7_lay_72 lkX7_193 imX7_goes seX7_goes rfl rfl (by decide) (by decide) (Nat.le_of_ble_eq_true rfl) (g_X7_goesE hN2 hN8 hp0 hp64 hw a0 ta0 x341 (by omega) (by omega) x377 (by omega) (by omega)) (fun rv h378 qh378 => ?_)
                  obtain ⟨wh378, fh378, x380, x381, rfl, ⟨fsh378, eh378, gh378⟩, ⟨lx380, ux380⟩, Ah378, Bh378, Ch378⟩ := qh378
                  have hfh378 := hf.tr (fh378.weak weak_PMg_PMlay)
                  have Jh378 := i1_fr fh378 (by decide) (by decide) (by decide) (by decide) hI
                  show TT _ _ _ _ _ _ _ _ [.inl x380] _
                  refine tw_if (tgt := 79) (pc := 75) dX7_lay_75 (by decide) (fun (c384 : x380.toInt ≠ 0) => ?_) (fun (c384 : ¬ (x380.toInt ≠ 0)) => ?_)
                  · skip
                    exfalso
                    omega
                  · skip
                    refine tt_stop ?_
                    rw [hQ]
                    exact Or.inl ⟨dX7_lay_78, rfl, rfl, wh378, hfh378, Jh378, rfl, x381, ⟨_, eh378, gh378⟩, Or.inr (Or.inl ⟨⟨by omega, by omega, by omega, by omega, by omega, by omega⟩, by omega, fh378, (by first | exact Or.inl (by omega) | exact Or.inr (Or.inl (by omega)) | exact Or.inr (Or.inr (Or.inl (by omega))))⟩)⟩
                · skip
                  refine tw_iconst (pc := 67) dX7_lay_67 (by decide) (fun x385 ex385 => ?_)
                  refine tt_goto (tgt := 72) (pc := 68) dX7_lay_68 (by decide) ?_
                  refine tw_callV (kc := 0) (ks := 0) (mc := 0) (ms := 0) (as := [.inl x341, .inl x385]) (st := []) (pc := 72) hw ta0 (by decide) dX7_lay_72 lkX7_193 imX7_goes seX7_goes rfl rfl (by decide) (by decide) (Nat.le_of_ble_eq_true rfl) (g_X7_goesE hN2 hN8 hp0 hp64 hw a0 ta0 x341 (by omega) (by omega) x385 (by omega) (by omega)) (fun rv h386 qh386 => ?_)
                  obtain ⟨wh386, fh386, x388, x389, rfl, ⟨fsh386, eh386, gh386⟩, ⟨lx388, ux388⟩, Ah386, Bh386, Ch386⟩ := qh386
                  have hfh386 := hf.tr (fh386.weak weak_PMg_PMlay)
                  have Jh386 := i1_fr fh386 (by decide) (by decide) (by decide) (by decide) hI
                  show TT _ _ _ _ _ _ _ _ [.inl x388] _
                  refine tw_if (tgt := 79) (pc := 75) dX7_lay_75 (by decide) (fun (c392 : x388.toInt ≠ 0) => ?_) (fun (c392 : ¬ (x388.toInt ≠ 0)) => ?_)
                  · skip
                    obtain ⟨b390, b391⟩ := (fun zz => (show x341.toInt = 1 ∧ x385.toInt = 1 from by omega)) (by omega)
                    have nb0 := nb_of wh386 ta0 Jh386 (i2_fr fh386 (by decide) (by decide) hI2) (i := a1.toNatClampNeg) (by show a1.toInt.toNat < 12; omega) (ARV.fr fh386 (by decide) ⟨q344, _, _, tq344, ef346, gf346⟩) (by omega)
                    refine tt_aload_n (pc := 79) dX7_lay_79 (.tail _ (.head _)) ?_
                    refine tw_getr (pc := 80) dX7_lay_80 flX7_7 wh386 ta0 (by decide) rfl (fun f393 q394 ef393 gf393 tq394 => ?_)
                    refine tt_iload_n (pc := 83) dX7_lay_83 (.tail _ (.tail _ (.head _))) ?_
                    refine tw_iconst (pc := 84) dX7_lay_84 (by decide) (fun x395 ex395 => ?_)
                    refine tw_zst (P := (PEX 32)) (pc := 85) dX7_lay_85 wh386 tq394 rfl (by omega) (by omega) (by omega) (by omega) (by decide) (fun f396 h397 eh397 gh397 kh397 wh397 fh397 => ?_)
                    have hfh397 := hfh386.tr (fh397.weak (weak_PEX (fun _ => rfl)))
                    have Jh397 := i1_fr fh397 (by decide) (by decide) (by decide) (by decide) Jh386
                    have NBh397 := nb_fr fh397 (by decide) nb0
                    obtain ⟨f398, E399, G400⟩ := fr_fld fh397 ta0 (by decide) eh386 gh386
                    obtain ⟨f401, E402, G403⟩ := fr_fld fh397 ta0 (by decide) ef393 gf393
                    refine tt_aload_n (pc := 86) dX7_lay_86 (.tail _ (.head _)) ?_
                    refine tw_getr (pc := 87) dX7_lay_87 flX7_16 wh397 ta0 (by decide) rfl (fun f404 q405 ef404 gf404 tq405 => ?_)
                    refine tt_iload_n (pc := 90) dX7_lay_90 (.tail _ (.tail _ (.head _))) ?_
                    refine tt_iload_n (pc := 91) dX7_lay_91 (.tail _ (.tail _ (.tail _ (.head _)))) ?_
                    refine tt_iload_n (pc := 92) dX7_lay_92 (.tail _ (.tail _ (.tail _ (.tail _ (.head _))))) ?_
                    refine tw_icmp (tgt := 100) (pc := 93) dX7_lay_93 (by decide) (fun (c406 : a3.toInt ≤ a2.toInt) => ?_) (fun (c406 : ¬ (a3.toInt ≤ a2.toInt)) => ?_)
                    · skip
                      refine tt_iload_n (pc := 100) dX7_lay_100 (.tail _ (.tail _ (.tail _ (.tail _ (.head _))))) ?_
                      refine tw_ist (P := (PEX 34)) (pc := 101) dX7_lay_101 wh397 tq405 rfl (by omega) (by omega) (by omega) (by omega) (by decide) (fun f407 h408 eh408 gh408 kh408 wh408 fh408 => ?_)
                      have hfh408 := hfh397.tr (fh408.weak (weak_PEX (fun _ => rfl)))
                      have Jh408 := i1_end hw.2.2.2 (by decide) fh408 tq405 eh408 gh408 NBh397 Jh397
                      have NBh408 := nb_fr fh408 (by decide) NBh397
                      obtain ⟨f409, E410, G411⟩ := fr_fld fh408 ta0 (by decide) E399 G400
                      obtain ⟨f412, E413, G414⟩ := fr_fld fh408 ta0 (by decide) E402 G403
                      have E415 := fr_arrI fh408 tq394 (by decide) gh397
                      obtain ⟨f416, E417, G418⟩ := fr_fld fh408 ta0 (by decide) ef404 gf404
                      refine tt_aload_n (pc := 102) dX7_lay_102 (.tail _ (.head _)) ?_
                      refine tw_getr (pc := 103) dX7_lay_103 flX7_20 wh408 ta0 (by decide) rfl (fun f419 q420 ef419 gf419 tq420 => ?_)
                      refine tt_iload_n (pc := 106) dX7_lay_106 (.tail _ (.tail _ (.head _))) ?_
                      refine tt_iload_n (pc := 107) dX7_lay_107 (.tail _ (.tail _ (.tail _ (.head _)))) ?_
                      refine tt_iload_n (pc := 108) dX7_lay_108 (.tail _ (.tail _ (.tail _ (.tail _ (.head _))))) ?_
                      refine tw_icmp (tgt := 116) (pc := 109) dX7_lay_109 (by decide) (fun (c421 : a3.toInt ≤ a2.toInt) => ?_) (fun (c421 : ¬ (a3.toInt ≤ a2.toInt)) => ?_)
                      · skip
                        refine tt_iload_n (pc := 116) dX7_lay_116 (.tail _ (.tail _ (.tail _ (.head _)))) ?_
                        refine tw_ist (P := (PEX 35)) (pc := 117) dX7_lay_117 wh408 tq420 rfl (by omega) (by omega) (by omega) (by omega) (by decide) (fun f422 h423 eh423 gh423 kh423 wh423 fh423 => ?_)
                        have hfh423 := hfh408.tr (fh423.weak (weak_PEX (fun _ => rfl)))
                        have Jh423 := i1_end hw.2.2.2 (by decide) fh423 tq420 eh423 gh423 NBh408 Jh408
                        have NBh423 := nb_fr fh423 (by decide) NBh408
                        obtain ⟨f424, E425, G426⟩ := fr_fld fh423 ta0 (by decide) E410 G411
                        obtain ⟨f427, E428, G429⟩ := fr_fld fh423 ta0 (by decide) E413 G414
                        have E430 := fr_arrI fh423 tq394 (by decide) E415
                        obtain ⟨f431, E432, G433⟩ := fr_fld fh423 ta0 (by decide) E417 G418
                        have E434 := fr_arrI fh423 tq405 (by decide) gh408
                        obtain ⟨f435, E436, G437⟩ := fr_fld fh423 ta0 (by decide) ef419 gf419
                        refine tt_aload_n (pc := 118) dX7_lay_118 (.tail _ (.head _)) ?_
                        refine tw_getr (pc := 119) dX7_lay_119 flX7_23 wh423 ta0 (by decide) rfl (fun f438 q439 ef438 gf438 tq439 => ?_)
                        refine tt_iload_n (pc := 122) dX7_lay_122 (.tail _ (.tail _ (.head _))) ?_
                        refine tt_iload (pc := 123) dX7_lay_123 (.tail _ (.tail _ (.tail _ (.tail _ (.tail _ (.head _)))))) ?_
                        refine tw_ist (P := (PEX 36)) (pc := 125) dX7_lay_125 wh423 tq439 rfl (by omega) (by omega) (by omega) (by omega) (by decide) (fun f440 h441 eh441 gh441 kh441 wh441 fh441 => ?_)
                        have hfh441 := hfh423.tr (fh441.weak (weak_PEX (fun _ => rfl)))
                        have Jh441 := i1_fr fh441 (by decide) (by decide) (by decide) (by decide) Jh423
                        have NBh441 := nb_fr fh441 (by decide) NBh423
                        obtain ⟨f442, E443, G444⟩ := fr_fld fh441 ta0 (by decide) E425 G426
                        obtain ⟨f445, E446, G447⟩ := fr_fld fh441 ta0 (by decide) E428 G429
                        have E448 := fr_arrI fh441 tq394 (by decide) E430
                        obtain ⟨f449, E450, G451⟩ := fr_fld fh441 ta0 (by decide) E432 G433
                        have E452 := fr_arrI fh441 tq405 (by decide) E434
                        obtain ⟨f453, E454, G455⟩ := fr_fld fh441 ta0 (by decide) E436 G437
                        have E456 := fr_arrI fh441 tq420 (by decide) gh423
                        obtain ⟨f457, E458, G459⟩ := fr_fld fh441 ta0 (by decide) ef438 gf438
                        refine tt_stop ?_
                        rw [hQ]
                        have ek : q394 = q344 := wh441.2.2.2 _ _ 32 (by decide) tq394 tq344
                        have eo : f396 = f346 := by
                          have z1 := fr_arrB fh386 tq394 (by decide) eh397
                          rw [ek, ef346] at z1
                          cases z1
                          rfl
                        have gn := E448
                        rw [ek, eo] at gn
                        exact Or.inl ⟨dX7_lay_126, rfl, rfl, wh441, hfh441, Jh441, rfl, x389, ⟨_, E443, G444⟩, Or.inr (Or.inr ⟨⟨by omega, by omega, by omega, by omega, by omega, by omega⟩, by omega, by omega, by omega, by omega, q344, f346, x345, x395, tq344, ef346, gf346, by omega, gn, by omega⟩)⟩
                      · skip
                        refine tt_iload_n (pc := 112) dX7_lay_112 (.tail _ (.tail _ (.tail _ (.tail _ (.head _))))) ?_
                        refine tt_goto (tgt := 117) (pc := 113) dX7_lay_113 (by decide) ?_
                        refine tw_ist (P := (PEX 35)) (pc := 117) dX7_lay_117 wh408 tq420 rfl (by omega) (by omega) (by omega) (by omega) (by decide) (fun f460 h461 eh461 gh461 kh461 wh461 fh461 => ?_)
                        have hfh461 := hfh408.tr (fh461.weak (weak_PEX (fun _ => rfl)))
                        have Jh461 := i1_end hw.2.2.2 (by decide) fh461 tq420 eh461 gh461 NBh408 Jh408
                        have NBh461 := nb_fr fh461 (by decide) NBh408
                        obtain ⟨f462, E463, G464⟩ := fr_fld fh461 ta0 (by decide) E410 G411
                        obtain ⟨f465, E466, G467⟩ := fr_fld fh461 ta0 (by decide) E413 G414
                        have E468 := fr_arrI fh461 tq394 (by decide) E415
                        obtain ⟨f469, E470, G471⟩ := fr_fld fh461 ta0 (by decide) E417 G418
                        have E472 := fr_arrI fh461 tq405 (by decide) gh408
                        obtain ⟨f473, E474, G475⟩ := fr_fld fh461 ta0 (by decide) ef419 gf419
                        refine tt_aload_n (pc := 118) dX7_lay_118 (.tail _ (.head _)) ?_
                        refine tw_getr (pc := 119) dX7_lay_119 flX7_23 wh461 ta0 (by decide) rfl (fun f476 q477 ef476 gf476 tq477 => ?_)
                        refine tt_iload_n (pc := 122) dX7_lay_122 (.tail _ (.tail _ (.head _))) ?_
                        refine tt_iload (pc := 123) dX7_lay_123 (.tail _ (.tail _ (.tail _ (.tail _ (.tail _ (.head _)))))) ?_
                        refine tw_ist (P := (PEX 36)) (pc := 125) dX7_lay_125 wh461 tq477 rfl (by omega) (by omega) (by omega) (by omega) (by decide) (fun f478 h479 eh479 gh479 kh479 wh479 fh479 => ?_)
                        have hfh479 := hfh461.tr (fh479.weak (weak_PEX (fun _ => rfl)))
                        have Jh479 := i1_fr fh479 (by decide) (by decide) (by decide) (by decide) Jh461
                        have NBh479 := nb_fr fh479 (by decide) NBh461
                        obtain ⟨f480, E481, G482⟩ := fr_fld fh479 ta0 (by decide) E463 G464
                        obtain ⟨f483, E484, G485⟩ := fr_fld fh479 ta0 (by decide) E466 G467
                        have E486 := fr_arrI fh479 tq394 (by decide) E468
                        obtain ⟨f487, E488, G489⟩ := fr_fld fh479 ta0 (by decide) E470 G471
                        have E490 := fr_arrI fh479 tq405 (by decide) E472
                        obtain ⟨f491, E492, G493⟩ := fr_fld fh479 ta0 (by decide) E474 G475
                        have E494 := fr_arrI fh479 tq420 (by decide) gh461
                        obtain ⟨f495, E496, G497⟩ := fr_fld fh479 ta0 (by decide) ef476 gf476
                        refine tt_stop ?_
                        rw [hQ]
                        have ek : q394 = q344 := wh479.2.2.2 _ _ 32 (by decide) tq394 tq344
                        have eo : f396 = f346 := by
                          have z1 := fr_arrB fh386 tq394 (by decide) eh397
                          rw [ek, ef346] at z1
                          cases z1
                          rfl
                        have gn := E486
                        rw [ek, eo] at gn
                        exact Or.inl ⟨dX7_lay_126, rfl, rfl, wh479, hfh479, Jh479, rfl, x389, ⟨_, E481, G482⟩, Or.inr (Or.inr ⟨⟨by omega, by omega, by omega, by omega, by omega, by omega⟩, by omega, by omega, by omega, by omega, q344, f346, x345, x395, tq344, ef346, gf346, by omega, gn, by omega⟩)⟩
                    · skip
                      refine tt_iload_n (pc := 96) dX7_lay_96 (.tail _ (.tail _ (.tail _ (.head _)))) ?_
                      refine tt_goto (tgt := 101) (pc := 97) dX7_lay_97 (by decide) ?_
                      refine tw_ist (P := (PEX 34)) (pc := 101) dX7_lay_101 wh397 tq405 rfl (by omega) (by omega) (by omega) (by omega) (by decide) (fun f498 h499 eh499 gh499 kh499 wh499 fh499 => ?_)
                      have hfh499 := hfh397.tr (fh499.weak (weak_PEX (fun _ => rfl)))
                      have Jh499 := i1_end hw.2.2.2 (by decide) fh499 tq405 eh499 gh499 NBh397 Jh397
                      have NBh499 := nb_fr fh499 (by decide) NBh397
                      obtain ⟨f500, E501, G502⟩ := fr_fld fh499 ta0 (by decide) E399 G400
                      obtain ⟨f503, E504, G505⟩ := fr_fld fh499 ta0 (by decide) E402 G403
                      have E506 := fr_arrI fh499 tq394 (by decide) gh397
                      obtain ⟨f507, E508, G509⟩ := fr_fld fh499 ta0 (by decide) ef404 gf404
                      refine tt_aload_n (pc := 102) dX7_lay_102 (.tail _ (.head _)) ?_
                      refine tw_getr (pc := 103) dX7_lay_103 flX7_20 wh499 ta0 (by decide) rfl (fun f510 q511 ef510 gf510 tq511 => ?_)
                      refine tt_iload_n (pc := 106) dX7_lay_106 (.tail _ (.tail _ (.head _))) ?_
                      refine tt_iload_n (pc := 107) dX7_lay_107 (.tail _ (.tail _ (.tail _ (.head _)))) ?_
                      refine tt_iload_n (pc := 108) dX7_lay_108 (.tail _ (.tail _ (.tail _ (.tail _ (.head _))))) ?_
                      refine tw_icmp (tgt := 116) (pc := 109) dX7_lay_109 (by decide) (fun (c512 : a3.toInt ≤ a2.toInt) => ?_) (fun (c512 : ¬ (a3.toInt ≤ a2.toInt)) => ?_)
                      · skip
                        refine tt_iload_n (pc := 116) dX7_lay_116 (.tail _ (.tail _ (.tail _ (.head _)))) ?_
                        refine tw_ist (P := (PEX 35)) (pc := 117) dX7_lay_117 wh499 tq511 rfl (by omega) (by omega) (by omega) (by omega) (by decide) (fun f513 h514 eh514 gh514 kh514 wh514 fh514 => ?_)
                        have hfh514 := hfh499.tr (fh514.weak (weak_PEX (fun _ => rfl)))
                        have Jh514 := i1_end hw.2.2.2 (by decide) fh514 tq511 eh514 gh514 NBh499 Jh499
                        have NBh514 := nb_fr fh514 (by decide) NBh499
                        obtain ⟨f515, E516, G517⟩ := fr_fld fh514 ta0 (by decide) E501 G502
                        obtain ⟨f518, E519, G520⟩ := fr_fld fh514 ta0 (by decide) E504 G505
                        have E521 := fr_arrI fh514 tq394 (by decide) E506
                        obtain ⟨f522, E523, G524⟩ := fr_fld fh514 ta0 (by decide) E508 G509
                        have E525 := fr_arrI fh514 tq405 (by decide) gh499
                        obtain ⟨f526, E527, G528⟩ := fr_fld fh514 ta0 (by decide) ef510 gf510
                        refine tt_aload_n (pc := 118) dX7_lay_118 (.tail _ (.head _)) ?_
                        refine tw_getr (pc := 119) dX7_lay_119 flX7_23 wh514 ta0 (by decide) rfl (fun f529 q530 ef529 gf529 tq530 => ?_)
                        refine tt_iload_n (pc := 122) dX7_lay_122 (.tail _ (.tail _ (.head _))) ?_
                        refine tt_iload (pc := 123) dX7_lay_123 (.tail _ (.tail _ (.tail _ (.tail _ (.tail _ (.head _)))))) ?_
                        refine tw_ist (P := (PEX 36)) (pc := 125) dX7_lay_125 wh514 tq530 rfl (by omega) (by omega) (by omega) (by omega) (by decide) (fun f531 h532 eh532 gh532 kh532 wh532 fh532 => ?_)
                        have hfh532 := hfh514.tr (fh532.weak (weak_PEX (fun _ => rfl)))
                        have Jh532 := i1_fr fh532 (by decide) (by decide) (by decide) (by decide) Jh514
                        have NBh532 := nb_fr fh532 (by decide) NBh514
                        obtain ⟨f533, E534, G535⟩ := fr_fld fh532 ta0 (by decide) E516 G517
                        obtain ⟨f536, E537, G538⟩ := fr_fld fh532 ta0 (by decide) E519 G520
                        have E539 := fr_arrI fh532 tq394 (by decide) E521
                        obtain ⟨f540, E541, G542⟩ := fr_fld fh532 ta0 (by decide) E523 G524
                        have E543 := fr_arrI fh532 tq405 (by decide) E525
                        obtain ⟨f544, E545, G546⟩ := fr_fld fh532 ta0 (by decide) E527 G528
                        have E547 := fr_arrI fh532 tq511 (by decide) gh514
                        obtain ⟨f548, E549, G550⟩ := fr_fld fh532 ta0 (by decide) ef529 gf529
                        refine tt_stop ?_
                        rw [hQ]
                        have ek : q394 = q344 := wh532.2.2.2 _ _ 32 (by decide) tq394 tq344
                        have eo : f396 = f346 := by
                          have z1 := fr_arrB fh386 tq394 (by decide) eh397
                          rw [ek, ef346] at z1
                          cases z1
                          rfl
                        have gn := E539
                        rw [ek, eo] at gn
                        exact Or.inl ⟨dX7_lay_126, rfl, rfl, wh532, hfh532, Jh532, rfl, x389, ⟨_, E534, G535⟩, Or.inr (Or.inr ⟨⟨by omega, by omega, by omega, by omega, by omega, by omega⟩, by omega, by omega, by omega, by omega, q344, f346, x345, x395, tq344, ef346, gf346, by omega, gn, by omega⟩)⟩
                      · skip
                        refine tt_iload_n (pc := 112) dX7_lay_112 (.tail _ (.tail _ (.tail _ (.tail _ (.head _))))) ?_
                        refine tt_goto (tgt := 117) (pc := 113) dX7_lay_113 (by decide) ?_
                        refine tw_ist (P := (PEX 35)) (pc := 117) dX7_lay_117 wh499 tq511 rfl (by omega) (by omega) (by omega) (by omega) (by decide) (fun f551 h552 eh552 gh552 kh552 wh552 fh552 => ?_)
                        have hfh552 := hfh499.tr (fh552.weak (weak_PEX (fun _ => rfl)))
                        have Jh552 := i1_end hw.2.2.2 (by decide) fh552 tq511 eh552 gh552 NBh499 Jh499
                        have NBh552 := nb_fr fh552 (by decide) NBh499
                        obtain ⟨f553, E554, G555⟩ := fr_fld fh552 ta0 (by decide) E501 G502
                        obtain ⟨f556, E557, G558⟩ := fr_fld fh552 ta0 (by decide) E504 G505
                        have E559 := fr_arrI fh552 tq394 (by decide) E506
                        obtain ⟨f560, E561, G562⟩ := fr_fld fh552 ta0 (by decide) E508 G509
                        have E563 := fr_arrI fh552 tq405 (by decide) gh499
                        obtain ⟨f564, E565, G566⟩ := fr_fld fh552 ta0 (by decide) ef510 gf510
                        refine tt_aload_n (pc := 118) dX7_lay_118 (.tail _ (.head _)) ?_
                        refine tw_getr (pc := 119) dX7_lay_119 flX7_23 wh552 ta0 (by decide) rfl (fun f567 q568 ef567 gf567 tq568 => ?_)
                        refine tt_iload_n (pc := 122) dX7_lay_122 (.tail _ (.tail _ (.head _))) ?_
                        refine tt_iload (pc := 123) dX7_lay_123 (.tail _ (.tail _ (.tail _ (.tail _ (.tail _ (.head _)))))) ?_
                        refine tw_ist (P := (PEX 36)) (pc := 125) dX7_lay_125 wh552 tq568 rfl (by omega) (by omega) (by omega) (by omega) (by decide) (fun f569 h570 eh570 gh570 kh570 wh570 fh570 => ?_)
                        have hfh570 := hfh552.tr (fh570.weak (weak_PEX (fun _ => rfl)))
                        have Jh570 := i1_fr fh570 (by decide) (by decide) (by decide) (by decide) Jh552
                        have NBh570 := nb_fr fh570 (by decide) NBh552
                        obtain ⟨f571, E572, G573⟩ := fr_fld fh570 ta0 (by decide) E554 G555
                        obtain ⟨f574, E575, G576⟩ := fr_fld fh570 ta0 (by decide) E557 G558
                        have E577 := fr_arrI fh570 tq394 (by decide) E559
                        obtain ⟨f578, E579, G580⟩ := fr_fld fh570 ta0 (by decide) E561 G562
                        have E581 := fr_arrI fh570 tq405 (by decide) E563
                        obtain ⟨f582, E583, G584⟩ := fr_fld fh570 ta0 (by decide) E565 G566
                        have E585 := fr_arrI fh570 tq511 (by decide) gh552
                        obtain ⟨f586, E587, G588⟩ := fr_fld fh570 ta0 (by decide) ef567 gf567
                        refine tt_stop ?_
                        rw [hQ]
                        have ek : q394 = q344 := wh570.2.2.2 _ _ 32 (by decide) tq394 tq344
                        have eo : f396 = f346 := by
                          have z1 := fr_arrB fh386 tq394 (by decide) eh397
                          rw [ek, ef346] at z1
                          cases z1
                          rfl
                        have gn := E577
                        rw [ek, eo] at gn
                        exact Or.inl ⟨dX7_lay_126, rfl, rfl, wh570, hfh570, Jh570, rfl, x389, ⟨_, E572, G573⟩, Or.inr (Or.inr ⟨⟨by omega, by omega, by omega, by omega, by omega, by omega⟩, by omega, by omega, by omega, by omega, q344, f346, x345, x395, tq344, ef346, gf346, by omega, gn, by omega⟩)⟩
                  · skip
                    refine tt_stop ?_
                    rw [hQ]
                    exact Or.inl ⟨dX7_lay_78, rfl, rfl, wh386, hfh386, Jh386, rfl, x389, ⟨_, eh386, gh386⟩, Or.inr (Or.inl ⟨⟨by omega, by omega, by omega, by omega, by omega, by omega⟩, by omega, fh386, (by first | exact Or.inl (by omega) | exact Or.inr (Or.inl (by omega)) | exact Or.inr (Or.inr (Or.inl (by omega))))⟩)⟩
set_option maxHeartbeats 4000000 in
theorem g_X7_turnI {l : Launch} {D : va_G} {N : Nat} {pk : Int} {τ : List Nat} (hN2 : 2 ≤ N) (hN8 : N ≤ 8) (hp0 : 0 ≤ pk) (hp64 : pk ≤ 64) {h : List tC} (hw : WT N pk τ h) (a0 : Nat) (ta0 : τ[a0]? = some 7) (a1 : Int32) (a2 : Int32) (la2 : 0 ≤ a2.toInt) (ua2 : a2.toInt ≤ 1) (hI : I1 τ h) (hI2 : I2 τ h) : TMc l D yX7_turn cX7_turn 6 none 6 153 0 0 [.inr (some a0), .inl a1, .inl a2] h (fun rv h' => WT N pk τ h' ∧ Fr PMt τ h h' ∧ I1 τ h' ∧ I2 τ h' ∧ rv = none) := by
  refine tmc_of false rfl (by decide) (Nat.le_of_ble_eq_true rfl) ?_
  suffices HQ : ∀ Q0, Q0 = tRt cX7_turn none (fun rv h' => WT N pk τ h' ∧ Fr PMt τ h h' ∧ I1 τ h' ∧ I2 τ h' ∧ rv = none) → TT l D mX7_turn Q0 0 0 0 [(0, .inr (some a0)), (1, .inl a1), (2, .inl a2)] [] h from HQ _ rfl
  intro Q0 hQ
  have hf : Fr PMt τ h h := Fr.rf
  have ba1 := i_ty a1
  refine tt_iload_n (pc := 0) dX7_turn_0 (.tail _ (.head _)) ?_
  refine tw_bipush (pc := 1) dX7_turn_1 (by decide) (fun x116 ex116 => ?_)
  refine tt_callS (kc := 0) (ks := 0) (mc := 0) (ms := 0) (as := [.inl a1, .inl x116]) (st := []) (pc := 3) dX7_turn_3 lkX7_99 smX7_in rfl (by decide) (by decide) (Nat.le_of_ble_eq_true rfl) (g_X7_in hN2 hN8 hp0 hp64 hw a1 x116) (fun rv h117 qh117 => ?_)
  obtain ⟨rfl, x118, rfl, lx118, ux118, Gx118, Zx118⟩ := qh117
  show TT _ _ _ _ _ _ _ _ [.inl x118] _
  refine tt_istore_n (pc := 6) dX7_turn_6 (by decide) ?_
  show TT _ _ _ _ _ _ _ [(3, .inl x118), (0, .inr (some a0)), (1, .inl a1), (2, .inl a2)] _ _
  refine tt_aload_n (pc := 7) dX7_turn_7 (.tail _ (.head _)) ?_
  refine tt_iload_n (pc := 8) dX7_turn_8 (.head _) ?_
  refine tt_iload_n (pc := 9) dX7_turn_9 (.head _) ?_
  refine tw_if (tgt := 36) (pc := 10) dX7_turn_10 (by decide) (fun (c121 : x118.toInt = 0) => ?_) (fun (c121 : ¬ (x118.toInt = 0)) => ?_)
  · skip
    refine tw_iconst (pc := 36) dX7_turn_36 (by decide) (fun x122 ex122 => ?_)
    refine tw_callV (kc := 0) (ks := 0) (mc := 0) (ms := 0) (as := [.inl x118, .inl x122]) (st := []) (pc := 37) hw ta0 (by decide) dX7_turn_37 lkX7_193 imX7_goes seX7_goes rfl rfl (by decide) (by decide) (Nat.le_of_ble_eq_true rfl) (g_X7_goesE hN2 hN8 hp0 hp64 hw a0 ta0 x118 (by omega) (by omega) x122 (by omega) (by omega)) (fun rv h123 qh123 => ?_)
    obtain ⟨wh123, fh123, x125, x126, rfl, ⟨fsh123, eh123, gh123⟩, ⟨lx125, ux125⟩, Ah123, Bh123, Ch123⟩ := qh123
    have hfh123 := hf.tr (fh123.weak weak_PMg_PMt)
    have Jh123 := i1_fr fh123 (by decide) (by decide) (by decide) (by decide) hI
    have Kh123 := i2_fr fh123 (by decide) (by decide) hI2
    show TT _ _ _ _ _ _ _ _ [.inl x125] _
    refine tw_if (tgt := 44) (pc := 40) dX7_turn_40 (by decide) (fun (c129 : x125.toInt ≠ 0) => ?_) (fun (c129 : ¬ (x125.toInt ≠ 0)) => ?_)
    · skip
      exfalso
      omega
    · skip
      refine tt_stop ?_
      rw [hQ]
      exact Or.inl ⟨dX7_turn_43, rfl, rfl, wh123, hfh123, Jh123, Kh123, rfl⟩
  · skip
    obtain ⟨b119, b120⟩ := Gx118 (by omega)
    refine tt_aload_n (pc := 13) dX7_turn_13 (.tail _ (.head _)) ?_
    refine tw_getr (pc := 14) dX7_turn_14 flX7_7 hw ta0 (by decide) rfl (fun f130 q131 ef130 gf130 tq131 => ?_)
    refine tt_iload_n (pc := 17) dX7_turn_17 (.tail _ (.tail _ (.head _))) ?_
    refine tw_zld (pc := 18) dX7_turn_18 hw tq131 rfl (by omega) (by omega) (fun f133 x132 ef133 gf133 lx132 ux132 => ?_)
    refine tw_if (tgt := 36) (pc := 19) dX7_turn_19 (by decide) (fun (c134 : x132.toInt = 0) => ?_) (fun (c134 : ¬ (x132.toInt = 0)) => ?_)
    · skip
      refine tw_iconst (pc := 36) dX7_turn_36 (by decide) (fun x135 ex135 => ?_)
      refine tw_callV (kc := 0) (ks := 0) (mc := 0) (ms := 0) (as := [.inl x118, .inl x135]) (st := []) (pc := 37) hw ta0 (by decide) dX7_turn_37 lkX7_193 imX7_goes seX7_goes rfl rfl (by decide) (by decide) (Nat.le_of_ble_eq_true rfl) (g_X7_goesE hN2 hN8 hp0 hp64 hw a0 ta0 x118 (by omega) (by omega) x135 (by omega) (by omega)) (fun rv h136 qh136 => ?_)
      obtain ⟨wh136, fh136, x138, x139, rfl, ⟨fsh136, eh136, gh136⟩, ⟨lx138, ux138⟩, Ah136, Bh136, Ch136⟩ := qh136
      have hfh136 := hf.tr (fh136.weak weak_PMg_PMt)
      have Jh136 := i1_fr fh136 (by decide) (by decide) (by decide) (by decide) hI
      have Kh136 := i2_fr fh136 (by decide) (by decide) hI2
      obtain ⟨f140, E141, G142⟩ := fr_fld fh136 ta0 (by decide) ef130 gf130
      show TT _ _ _ _ _ _ _ _ [.inl x138] _
      refine tw_if (tgt := 44) (pc := 40) dX7_turn_40 (by decide) (fun (c145 : x138.toInt ≠ 0) => ?_) (fun (c145 : ¬ (x138.toInt ≠ 0)) => ?_)
      · skip
        exfalso
        omega
      · skip
        refine tt_stop ?_
        rw [hQ]
        exact Or.inl ⟨dX7_turn_43, rfl, rfl, wh136, hfh136, Jh136, Kh136, rfl⟩
    · skip
      refine tt_aload_n (pc := 22) dX7_turn_22 (.tail _ (.head _)) ?_
      refine tw_getr (pc := 23) dX7_turn_23 flX7_13 hw ta0 (by decide) rfl (fun f146 q147 ef146 gf146 tq147 => ?_)
      refine tt_iload_n (pc := 26) dX7_turn_26 (.tail _ (.tail _ (.head _))) ?_
      refine tw_zld (pc := 27) dX7_turn_27 hw tq147 rfl (by omega) (by omega) (fun f149 x148 ef149 gf149 lx148 ux148 => ?_)
      refine tt_iload_n (pc := 28) dX7_turn_28 (.tail _ (.tail _ (.tail _ (.head _)))) ?_
      refine tw_icmp (tgt := 36) (pc := 29) dX7_turn_29 (by decide) (fun (c150 : x148.toInt = a2.toInt) => ?_) (fun (c150 : ¬ (x148.toInt = a2.toInt)) => ?_)
      · skip
        refine tw_iconst (pc := 36) dX7_turn_36 (by decide) (fun x151 ex151 => ?_)
        refine tw_callV (kc := 0) (ks := 0) (mc := 0) (ms := 0) (as := [.inl x118, .inl x151]) (st := []) (pc := 37) hw ta0 (by decide) dX7_turn_37 lkX7_193 imX7_goes seX7_goes rfl rfl (by decide) (by decide) (Nat.le_of_ble_eq_true rfl) (g_X7_goesE hN2 hN8 hp0 hp64 hw a0 ta0 x118 (by omega) (by omega) x151 (by omega) (by omega)) (fun rv h152 qh152 => ?_)
        obtain ⟨wh152, fh152, x154, x155, rfl, ⟨fsh152, eh152, gh152⟩, ⟨lx154, ux154⟩, Ah152, Bh152, Ch152⟩ := qh152
        have hfh152 := hf.tr (fh152.weak weak_PMg_PMt)
        have Jh152 := i1_fr fh152 (by decide) (by decide) (by decide) (by decide) hI
        have Kh152 := i2_fr fh152 (by decide) (by decide) hI2
        obtain ⟨f156, E157, G158⟩ := fr_fld fh152 ta0 (by decide) ef130 gf130
        obtain ⟨f159, E160, G161⟩ := fr_fld fh152 ta0 (by decide) ef146 gf146
        show TT _ _ _ _ _ _ _ _ [.inl x154] _
        refine tw_if (tgt := 44) (pc := 40) dX7_turn_40 (by decide) (fun (c164 : x154.toInt ≠ 0) => ?_) (fun (c164 : ¬ (x154.toInt ≠ 0)) => ?_)
        · skip
          exfalso
          omega
        · skip
          refine tt_stop ?_
          rw [hQ]
          exact Or.inl ⟨dX7_turn_43, rfl, rfl, wh152, hfh152, Jh152, Kh152, rfl⟩
      · skip
        refine tw_iconst (pc := 32) dX7_turn_32 (by decide) (fun x165 ex165 => ?_)
        refine tt_goto (tgt := 37) (pc := 33) dX7_turn_33 (by decide) ?_
        refine tw_callV (kc := 0) (ks := 0) (mc := 0) (ms := 0) (as := [.inl x118, .inl x165]) (st := []) (pc := 37) hw ta0 (by decide) dX7_turn_37 lkX7_193 imX7_goes seX7_goes rfl rfl (by decide) (by decide) (Nat.le_of_ble_eq_true rfl) (g_X7_goesE hN2 hN8 hp0 hp64 hw a0 ta0 x118 (by omega) (by omega) x165 (by omega) (by omega)) (fun rv h166 qh166 => ?_)
        obtain ⟨wh166, fh166, x168, x169, rfl, ⟨fsh166, eh166, gh166⟩, ⟨lx168, ux168⟩, Ah166, Bh166, Ch166⟩ := qh166
        have hfh166 := hf.tr (fh166.weak weak_PMg_PMt)
        have Jh166 := i1_fr fh166 (by decide) (by decide) (by decide) (by decide) hI
        have Kh166 := i2_fr fh166 (by decide) (by decide) hI2
        obtain ⟨f170, E171, G172⟩ := fr_fld fh166 ta0 (by decide) ef130 gf130
        obtain ⟨f173, E174, G175⟩ := fr_fld fh166 ta0 (by decide) ef146 gf146
        show TT _ _ _ _ _ _ _ _ [.inl x168] _
        refine tw_if (tgt := 44) (pc := 40) dX7_turn_40 (by decide) (fun (c178 : x168.toInt ≠ 0) => ?_) (fun (c178 : ¬ (x168.toInt ≠ 0)) => ?_)
        · skip
          obtain ⟨b176, b177⟩ := (fun zz => (show x118.toInt = 1 ∧ x165.toInt = 1 from by omega)) (by omega)
          refine tt_aload_n (pc := 44) dX7_turn_44 (.tail _ (.head _)) ?_
          refine tw_getr (pc := 45) dX7_turn_45 flX7_16 wh166 ta0 (by decide) rfl (fun f179 q180 ef179 gf179 tq180 => ?_)
          refine tt_iload_n (pc := 48) dX7_turn_48 (.tail _ (.tail _ (.head _))) ?_
          refine tw_ild (pc := 49) dX7_turn_49 wh166 tq180 rfl (by omega) (by omega) (fun f182 x181 ef182 gf182 lx181 ux181 => ?_)
          refine tt_istore (pc := 50) dX7_turn_50 (by decide) ?_
          show TT _ _ _ _ _ _ _ [(4, .inl x181), (3, .inl x118), (0, .inr (some a0)), (1, .inl a1), (2, .inl a2)] _ _
          refine tt_aload_n (pc := 52) dX7_turn_52 (.tail _ (.tail _ (.head _))) ?_
          refine tw_getr (pc := 53) dX7_turn_53 flX7_20 wh166 ta0 (by decide) rfl (fun f183 q184 ef183 gf183 tq184 => ?_)
          refine tt_iload_n (pc := 56) dX7_turn_56 (.tail _ (.tail _ (.tail _ (.head _)))) ?_
          refine tw_ild (pc := 57) dX7_turn_57 wh166 tq184 rfl (by omega) (by omega) (fun f186 x185 ef186 gf186 lx185 ux185 => ?_)
          refine tt_istore (pc := 58) dX7_turn_58 (by decide) ?_
          show TT _ _ _ _ _ _ _ [(5, .inl x185), (4, .inl x181), (3, .inl x118), (0, .inr (some a0)), (1, .inl a1), (2, .inl a2)] _ _
          refine tt_aload_n (pc := 60) dX7_turn_60 (.tail _ (.tail _ (.tail _ (.head _)))) ?_
          refine tt_get (pc := 61) dX7_turn_61 flX7_13 E174 G175 ?_
          refine tt_iload_n (pc := 64) dX7_turn_64 (.tail _ (.tail _ (.tail _ (.tail _ (.head _))))) ?_
          refine tt_iload_n (pc := 65) dX7_turn_65 (.tail _ (.tail _ (.tail _ (.tail _ (.tail _ (.head _)))))) ?_
          refine tw_zst (P := (PEX 33)) (pc := 66) dX7_turn_66 wh166 tq147 rfl (by omega) (by omega) (by omega) (by omega) (by decide) (fun f187 h188 eh188 gh188 kh188 wh188 fh188 => ?_)
          have hfh188 := hfh166.tr (fh188.weak (weak_PEX (fun _ => rfl)))
          obtain ⟨f189, E190, G191⟩ := fr_fld fh188 ta0 (by decide) E171 G172
          obtain ⟨f192, E193, G194⟩ := fr_fld fh188 ta0 (by decide) E174 G175
          obtain ⟨f195, E196, G197⟩ := fr_fld fh188 ta0 (by decide) eh166 gh166
          obtain ⟨f198, E199, G200⟩ := fr_fld fh188 ta0 (by decide) ef179 gf179
          have E201 := fr_arrI fh188 tq180 (by decide) ef182
          obtain ⟨f202, E203, G204⟩ := fr_fld fh188 ta0 (by decide) ef183 gf183
          have E205 := fr_arrI fh188 tq184 (by decide) ef186
          have Xh188 := i1x_up hw.2.2.2 fh188 tq147 eh188 gh188 (lo0 := x181) (hi0 := x185) ⟨q180, _, _, tq180, ef182, gf182⟩ ⟨q184, _, _, tq184, ef186, gf186⟩ Jh166 (a := x181.toInt.toNat) (b := x185.toInt.toNat) (by omega) (by omega)
          have Kh188 := i2_up hw.2.2.2 fh188 tq147 eh188 gh188 (ARV.fr fh166 (by decide) ⟨q131, _, _, tq131, ef133, gf133⟩) (by omega) Kh166
          refine tt_iload_n (pc := 67) dX7_turn_67 (.tail _ (.tail _ (.tail _ (.tail _ (.tail _ (.head _)))))) ?_
          refine tw_if (tgt := 87) (pc := 68) dX7_turn_68 (by decide) (fun (c206 : a2.toInt ≠ 0) => ?_) (fun (c206 : ¬ (a2.toInt ≠ 0)) => ?_)
          · skip
            refine tt_aload_n (pc := 87) dX7_turn_87 (.tail _ (.tail _ (.tail _ (.head _)))) ?_
            refine tt_iload (pc := 88) dX7_turn_88 (.tail _ (.head _)) ?_
            refine tw_callV (kc := 0) (ks := 0) (mc := 0) (ms := 0) (as := [.inl x181]) (st := []) (pc := 90) wh188 ta0 (by decide) dX7_turn_90 lkX7_200 imX7_tell seX7_tell rfl rfl (by decide) (by decide) (Nat.le_of_ble_eq_true rfl) (g_X7_tellE hN2 hN8 hp0 hp64 wh188 a0 ta0 x181 (by omega) (by omega)) (fun rv h207 qh207 => ?_)
            obtain ⟨wh207, fh207, rfl, ownh207, rrh207⟩ := qh207
            have hfh207 := hfh188.tr (fh207.weak weak_PM_PMt)
            have Xh207 : I1x τ h207 x181.toInt.toNat x185.toInt.toNat := fun r9 h9 na nb => rrh207 r9 na (Xh188 r9 h9 na nb)
            have Kh207 := i2_fr fh207 (by decide) (by decide) Kh188
            show TT _ _ _ _ _ _ _ _ [] _
            refine tt_aload_n (pc := 93) dX7_turn_93 (.tail _ (.tail _ (.tail _ (.head _)))) ?_
            refine tt_iload (pc := 94) dX7_turn_94 (.head _) ?_
            refine tw_callV (kc := 0) (ks := 0) (mc := 0) (ms := 0) (as := [.inl x185]) (st := []) (pc := 96) wh207 ta0 (by decide) dX7_turn_96 lkX7_200 imX7_tell seX7_tell rfl rfl (by decide) (by decide) (Nat.le_of_ble_eq_true rfl) (g_X7_tellE hN2 hN8 hp0 hp64 wh207 a0 ta0 x185 (by omega) (by omega)) (fun rv h208 qh208 => ?_)
            obtain ⟨wh208, fh208, rfl, ownh208, rrh208⟩ := qh208
            have hfh208 := hfh207.tr (fh208.weak weak_PM_PMt)
            have Jh208 : I1 τ h208 := i1_iff.mpr (fun r9 h9 => by
              by_cases e1 : r9 = x185.toInt.toNat
              · rw [e1]; exact ownh208
              · by_cases e2 : r9 = x181.toInt.toNat
                · rw [e2]; exact rrh208 _ (by rw [← e2]; exact e1) ownh207
                · exact rrh208 r9 e1 (Xh207 r9 h9 e2 e1))
            have Kh208 := i2_fr fh208 (by decide) (by decide) Kh207
            show TT _ _ _ _ _ _ _ _ [] _
            refine tt_iload_n (pc := 99) dX7_turn_99 (.tail _ (.tail _ (.tail _ (.tail _ (.tail _ (.head _)))))) ?_
            refine tw_if (tgt := 134) (pc := 100) dX7_turn_100 (by decide) (fun (c209 : a2.toInt = 0) => ?_) (fun (c209 : ¬ (a2.toInt = 0)) => ?_)
            · skip
              exfalso
              omega
            · skip
              refine tt_aload_n (pc := 103) dX7_turn_103 (.tail _ (.tail _ (.tail _ (.head _)))) ?_
              refine tt_iload (pc := 104) dX7_turn_104 (.tail _ (.head _)) ?_
              refine tt_iload_n (pc := 106) dX7_turn_106 (.tail _ (.tail _ (.tail _ (.tail _ (.head _))))) ?_
              refine tw_callV (kc := 0) (ks := 0) (mc := 0) (ms := 0) (as := [.inl x181, .inl a1]) (st := []) (pc := 107) wh208 ta0 (by decide) dX7_turn_107 lkX7_203 imX7_showNotes seX7_showNotes rfl rfl (by decide) (by decide) (Nat.le_of_ble_eq_true rfl) (g_X7_showNotes hN2 hN8 hp0 hp64 wh208 a0 ta0 x181 (by omega) (by omega) a1 (by omega) (by omega)) (fun rv h210 qh210 => ?_)
              obtain ⟨wh210, fh210, rfl⟩ := qh210
              have hfh210 := hfh208.tr (fh210.weak weak_PMk_PMt)
              have Jh210 := i1_fr fh210 (by decide) (by decide) (by decide) (by decide) Jh208
              have Kh210 := i2_fr fh210 (by decide) (by decide) Kh208
              show TT _ _ _ _ _ _ _ _ [] _
              refine tt_aload_n (pc := 110) dX7_turn_110 (.tail _ (.tail _ (.tail _ (.head _)))) ?_
              refine tt_iload (pc := 111) dX7_turn_111 (.head _) ?_
              refine tt_iload_n (pc := 113) dX7_turn_113 (.tail _ (.tail _ (.tail _ (.tail _ (.head _))))) ?_
              refine tw_callV (kc := 0) (ks := 0) (mc := 0) (ms := 0) (as := [.inl x185, .inl a1]) (st := []) (pc := 114) wh210 ta0 (by decide) dX7_turn_114 lkX7_203 imX7_showNotes seX7_showNotes rfl rfl (by decide) (by decide) (Nat.le_of_ble_eq_true rfl) (g_X7_showNotes hN2 hN8 hp0 hp64 wh210 a0 ta0 x185 (by omega) (by omega) a1 (by omega) (by omega)) (fun rv h211 qh211 => ?_)
              obtain ⟨wh211, fh211, rfl⟩ := qh211
              have hfh211 := hfh210.tr (fh211.weak weak_PMk_PMt)
              have Jh211 := i1_fr fh211 (by decide) (by decide) (by decide) (by decide) Jh210
              have Kh211 := i2_fr fh211 (by decide) (by decide) Kh210
              show TT _ _ _ _ _ _ _ _ [] _
              refine tt_aload_n (pc := 117) dX7_turn_117 (.tail _ (.tail _ (.tail _ (.head _)))) ?_
              refine tt_iload (pc := 118) dX7_turn_118 (.tail _ (.head _)) ?_
              refine tt_iload_n (pc := 120) dX7_turn_120 (.tail _ (.tail _ (.tail _ (.tail _ (.head _))))) ?_
              refine tw_callV (kc := 0) (ks := 0) (mc := 0) (ms := 0) (as := [.inl x181, .inl a1]) (st := []) (pc := 121) wh211 ta0 (by decide) dX7_turn_121 lkX7_206 imX7_showMappings seX7_showMappings rfl rfl (by decide) (by decide) (Nat.le_of_ble_eq_true rfl) (g_X7_showMappings hN2 hN8 hp0 hp64 wh211 a0 ta0 x181 (by omega) (by omega) a1 (by omega) (by omega)) (fun rv h212 qh212 => ?_)
              obtain ⟨wh212, fh212, rfl⟩ := qh212
              have hfh212 := hfh211.tr (fh212.weak weak_PMk_PMt)
              have Jh212 := i1_fr fh212 (by decide) (by decide) (by decide) (by decide) Jh211
              have Kh212 := i2_fr fh212 (by decide) (by decide) Kh211
              show TT _ _ _ _ _ _ _ _ [] _
              refine tt_aload_n (pc := 124) dX7_turn_124 (.tail _ (.tail _ (.tail _ (.head _)))) ?_
              refine tt_iload (pc := 125) dX7_turn_125 (.head _) ?_
              refine tt_iload_n (pc := 127) dX7_turn_127 (.tail _ (.tail _ (.tail _ (.tail _ (.head _))))) ?_
              refine tw_callV (kc := 0) (ks := 0) (mc := 0) (ms := 0) (as := [.inl x185, .inl a1]) (st := []) (pc := 128) wh212 ta0 (by decide) dX7_turn_128 lkX7_206 imX7_showMappings seX7_showMappings rfl rfl (by decide) (by decide) (Nat.le_of_ble_eq_true rfl) (g_X7_showMappings hN2 hN8 hp0 hp64 wh212 a0 ta0 x185 (by omega) (by omega) a1 (by omega) (by omega)) (fun rv h213 qh213 => ?_)
              obtain ⟨wh213, fh213, rfl⟩ := qh213
              have hfh213 := hfh212.tr (fh213.weak weak_PMk_PMt)
              have Jh213 := i1_fr fh213 (by decide) (by decide) (by decide) (by decide) Jh212
              have Kh213 := i2_fr fh213 (by decide) (by decide) Kh212
              show TT _ _ _ _ _ _ _ _ [] _
              refine tt_goto (tgt := 148) (pc := 131) dX7_turn_131 (by decide) ?_
              refine tt_aload_n (pc := 148) dX7_turn_148 (.tail _ (.tail _ (.tail _ (.head _)))) ?_
              refine tt_iload (pc := 149) dX7_turn_149 (.tail _ (.head _)) ?_
              refine tw_callV (kc := 0) (ks := 0) (mc := 0) (ms := 0) (as := [.inl x181]) (st := []) (pc := 151) wh213 ta0 (by decide) dX7_turn_151 lkX7_170 imX7_check seX7_check rfl rfl (by decide) (by decide) (Nat.le_of_ble_eq_true rfl) (g_X7_check hN2 hN8 hp0 hp64 wh213 a0 ta0 x181 (by omega) (by omega)) (fun rv h214 qh214 => ?_)
              obtain ⟨wh214, fh214, rfl⟩ := qh214
              have hfh214 := hfh213.tr (fh214.weak weak_PMk_PMt)
              have Jh214 := i1_fr fh214 (by decide) (by decide) (by decide) (by decide) Jh213
              have Kh214 := i2_fr fh214 (by decide) (by decide) Kh213
              show TT _ _ _ _ _ _ _ _ [] _
              refine tt_aload_n (pc := 154) dX7_turn_154 (.tail _ (.tail _ (.tail _ (.head _)))) ?_
              refine tt_iload (pc := 155) dX7_turn_155 (.head _) ?_
              refine tw_callV (kc := 0) (ks := 0) (mc := 0) (ms := 0) (as := [.inl x185]) (st := []) (pc := 157) wh214 ta0 (by decide) dX7_turn_157 lkX7_170 imX7_check seX7_check rfl rfl (by decide) (by decide) (Nat.le_of_ble_eq_true rfl) (g_X7_check hN2 hN8 hp0 hp64 wh214 a0 ta0 x185 (by omega) (by omega)) (fun rv h215 qh215 => ?_)
              obtain ⟨wh215, fh215, rfl⟩ := qh215
              have hfh215 := hfh214.tr (fh215.weak weak_PMk_PMt)
              have Jh215 := i1_fr fh215 (by decide) (by decide) (by decide) (by decide) Jh214
              have Kh215 := i2_fr fh215 (by decide) (by decide) Kh214
              show TT _ _ _ _ _ _ _ _ [] _
              refine tt_stop ?_
              rw [hQ]
              exact Or.inl ⟨dX7_turn_160, rfl, rfl, wh215, hfh215, Jh215, Kh215, rfl⟩
          · skip
            refine tt_aload_n (pc := 71) dX7_turn_71 (.tail _ (.tail _ (.tail _ (.head _)))) ?_
            refine tw_iconst (pc := 72) dX7_turn_72 (by decide) (fun x216 ex216 => ?_)
            refine tt_iload_n (pc := 73) dX7_turn_73 (.tail _ (.tail _ (.tail _ (.tail _ (.head _))))) ?_
            refine tw_imul (c := 2) (pc := 74) dX7_turn_74 (by omega) (by omega) (fun x217 ex217 => ?_)
            refine tw_callV (kc := 0) (ks := 0) (mc := 0) (ms := 0) (as := [.inl x217]) (st := []) (pc := 75) wh188 ta0 (by decide) dX7_turn_75 lkX7_197 imX7_empty seX7_empty rfl rfl (by decide) (by decide) (Nat.le_of_ble_eq_true rfl) (g_X7_empty hN2 hN8 hp0 hp64 wh188 a0 ta0 x217 (by omega) (by omega)) (fun rv h218 qh218 => ?_)
            obtain ⟨wh218, fh218, rfl⟩ := qh218
            have hfh218 := hfh188.tr (fh218.weak weak_PMk_PMt)
            have Xh218 := i1x_fr fh218 (by decide) (by decide) (by decide) (by decide) Xh188
            have Kh218 := i2_fr fh218 (by decide) (by decide) Kh188
            show TT _ _ _ _ _ _ _ _ [] _
            refine tt_aload_n (pc := 78) dX7_turn_78 (.tail _ (.tail _ (.tail _ (.head _)))) ?_
            refine tw_iconst (pc := 79) dX7_turn_79 (by decide) (fun x219 ex219 => ?_)
            refine tt_iload_n (pc := 80) dX7_turn_80 (.tail _ (.tail _ (.tail _ (.tail _ (.head _))))) ?_
            refine tw_imul (c := 2) (pc := 81) dX7_turn_81 (by omega) (by omega) (fun x220 ex220 => ?_)
            refine tw_iconst (pc := 82) dX7_turn_82 (by decide) (fun x221 ex221 => ?_)
            refine tw_iadd (pc := 83) dX7_turn_83 (by omega) (fun x222 ex222 => ?_)
            refine tw_callV (kc := 0) (ks := 0) (mc := 0) (ms := 0) (as := [.inl x222]) (st := []) (pc := 84) wh218 ta0 (by decide) dX7_turn_84 lkX7_197 imX7_empty seX7_empty rfl rfl (by decide) (by decide) (Nat.le_of_ble_eq_true rfl) (g_X7_empty hN2 hN8 hp0 hp64 wh218 a0 ta0 x222 (by omega) (by omega)) (fun rv h223 qh223 => ?_)
            obtain ⟨wh223, fh223, rfl⟩ := qh223
            have hfh223 := hfh218.tr (fh223.weak weak_PMk_PMt)
            have Xh223 := i1x_fr fh223 (by decide) (by decide) (by decide) (by decide) Xh218
            have Kh223 := i2_fr fh223 (by decide) (by decide) Kh218
            show TT _ _ _ _ _ _ _ _ [] _
            refine tt_aload_n (pc := 87) dX7_turn_87 (.tail _ (.tail _ (.tail _ (.head _)))) ?_
            refine tt_iload (pc := 88) dX7_turn_88 (.tail _ (.head _)) ?_
            refine tw_callV (kc := 0) (ks := 0) (mc := 0) (ms := 0) (as := [.inl x181]) (st := []) (pc := 90) wh223 ta0 (by decide) dX7_turn_90 lkX7_200 imX7_tell seX7_tell rfl rfl (by decide) (by decide) (Nat.le_of_ble_eq_true rfl) (g_X7_tellE hN2 hN8 hp0 hp64 wh223 a0 ta0 x181 (by omega) (by omega)) (fun rv h224 qh224 => ?_)
            obtain ⟨wh224, fh224, rfl, ownh224, rrh224⟩ := qh224
            have hfh224 := hfh223.tr (fh224.weak weak_PM_PMt)
            have Xh224 : I1x τ h224 x181.toInt.toNat x185.toInt.toNat := fun r9 h9 na nb => rrh224 r9 na (Xh223 r9 h9 na nb)
            have Kh224 := i2_fr fh224 (by decide) (by decide) Kh223
            show TT _ _ _ _ _ _ _ _ [] _
            refine tt_aload_n (pc := 93) dX7_turn_93 (.tail _ (.tail _ (.tail _ (.head _)))) ?_
            refine tt_iload (pc := 94) dX7_turn_94 (.head _) ?_
            refine tw_callV (kc := 0) (ks := 0) (mc := 0) (ms := 0) (as := [.inl x185]) (st := []) (pc := 96) wh224 ta0 (by decide) dX7_turn_96 lkX7_200 imX7_tell seX7_tell rfl rfl (by decide) (by decide) (Nat.le_of_ble_eq_true rfl) (g_X7_tellE hN2 hN8 hp0 hp64 wh224 a0 ta0 x185 (by omega) (by omega)) (fun rv h225 qh225 => ?_)
            obtain ⟨wh225, fh225, rfl, ownh225, rrh225⟩ := qh225
            have hfh225 := hfh224.tr (fh225.weak weak_PM_PMt)
            have Jh225 : I1 τ h225 := i1_iff.mpr (fun r9 h9 => by
              by_cases e1 : r9 = x185.toInt.toNat
              · rw [e1]; exact ownh225
              · by_cases e2 : r9 = x181.toInt.toNat
                · rw [e2]; exact rrh225 _ (by rw [← e2]; exact e1) ownh224
                · exact rrh225 r9 e1 (Xh224 r9 h9 e2 e1))
            have Kh225 := i2_fr fh225 (by decide) (by decide) Kh224
            show TT _ _ _ _ _ _ _ _ [] _
            refine tt_iload_n (pc := 99) dX7_turn_99 (.tail _ (.tail _ (.tail _ (.tail _ (.tail _ (.head _)))))) ?_
            refine tw_if (tgt := 134) (pc := 100) dX7_turn_100 (by decide) (fun (c226 : a2.toInt = 0) => ?_) (fun (c226 : ¬ (a2.toInt = 0)) => ?_)
            · skip
              refine tt_aload_n (pc := 134) dX7_turn_134 (.tail _ (.tail _ (.tail _ (.head _)))) ?_
              refine tt_iload (pc := 135) dX7_turn_135 (.tail _ (.head _)) ?_
              refine tt_iload_n (pc := 137) dX7_turn_137 (.tail _ (.tail _ (.tail _ (.tail _ (.head _))))) ?_
              refine tw_callV (kc := 0) (ks := 0) (mc := 0) (ms := 0) (as := [.inl x181, .inl a1]) (st := []) (pc := 138) wh225 ta0 (by decide) dX7_turn_138 lkX7_209 imX7_sever seX7_sever rfl rfl (by decide) (by decide) (Nat.le_of_ble_eq_true rfl) (g_X7_sever hN2 hN8 hp0 hp64 wh225 a0 ta0 x181 (by omega) (by omega) a1 (by omega) (by omega)) (fun rv h227 qh227 => ?_)
              obtain ⟨wh227, fh227, rfl⟩ := qh227
              have hfh227 := hfh225.tr (fh227.weak weak_PMk_PMt)
              have Jh227 := i1_fr fh227 (by decide) (by decide) (by decide) (by decide) Jh225
              have Kh227 := i2_fr fh227 (by decide) (by decide) Kh225
              show TT _ _ _ _ _ _ _ _ [] _
              refine tt_aload_n (pc := 141) dX7_turn_141 (.tail _ (.tail _ (.tail _ (.head _)))) ?_
              refine tt_iload (pc := 142) dX7_turn_142 (.head _) ?_
              refine tt_iload_n (pc := 144) dX7_turn_144 (.tail _ (.tail _ (.tail _ (.tail _ (.head _))))) ?_
              refine tw_callV (kc := 0) (ks := 0) (mc := 0) (ms := 0) (as := [.inl x185, .inl a1]) (st := []) (pc := 145) wh227 ta0 (by decide) dX7_turn_145 lkX7_209 imX7_sever seX7_sever rfl rfl (by decide) (by decide) (Nat.le_of_ble_eq_true rfl) (g_X7_sever hN2 hN8 hp0 hp64 wh227 a0 ta0 x185 (by omega) (by omega) a1 (by omega) (by omega)) (fun rv h228 qh228 => ?_)
              obtain ⟨wh228, fh228, rfl⟩ := qh228
              have hfh228 := hfh227.tr (fh228.weak weak_PMk_PMt)
              have Jh228 := i1_fr fh228 (by decide) (by decide) (by decide) (by decide) Jh227
              have Kh228 := i2_fr fh228 (by decide) (by decide) Kh227
              show TT _ _ _ _ _ _ _ _ [] _
              refine tt_aload_n (pc := 148) dX7_turn_148 (.tail _ (.tail _ (.tail _ (.head _)))) ?_
              refine tt_iload (pc := 149) dX7_turn_149 (.tail _ (.head _)) ?_
              refine tw_callV (kc := 0) (ks := 0) (mc := 0) (ms := 0) (as := [.inl x181]) (st := []) (pc := 151) wh228 ta0 (by decide) dX7_turn_151 lkX7_170 imX7_check seX7_check rfl rfl (by decide) (by decide) (Nat.le_of_ble_eq_true rfl) (g_X7_check hN2 hN8 hp0 hp64 wh228 a0 ta0 x181 (by omega) (by omega)) (fun rv h229 qh229 => ?_)
              obtain ⟨wh229, fh229, rfl⟩ := qh229
              have hfh229 := hfh228.tr (fh229.weak weak_PMk_PMt)
              have Jh229 := i1_fr fh229 (by decide) (by decide) (by decide) (by decide) Jh228
              have Kh229 := i2_fr fh229 (by decide) (by decide) Kh228
              show TT _ _ _ _ _ _ _ _ [] _
              refine tt_aload_n (pc := 154) dX7_turn_154 (.tail _ (.tail _ (.tail _ (.head _)))) ?_
              refine tt_iload (pc := 155) dX7_turn_155 (.head _) ?_
              refine tw_callV (kc := 0) (ks := 0) (mc := 0) (ms := 0) (as := [.inl x185]) (st := []) (pc := 157) wh229 ta0 (by decide) dX7_turn_157 lkX7_170 imX7_check seX7_check rfl rfl (by decide) (by decide) (Nat.le_of_ble_eq_true rfl) (g_X7_check hN2 hN8 hp0 hp64 wh229 a0 ta0 x185 (by omega) (by omega)) (fun rv h230 qh230 => ?_)
              obtain ⟨wh230, fh230, rfl⟩ := qh230
              have hfh230 := hfh229.tr (fh230.weak weak_PMk_PMt)
              have Jh230 := i1_fr fh230 (by decide) (by decide) (by decide) (by decide) Jh229
              have Kh230 := i2_fr fh230 (by decide) (by decide) Kh229
              show TT _ _ _ _ _ _ _ _ [] _
              refine tt_stop ?_
              rw [hQ]
              exact Or.inl ⟨dX7_turn_160, rfl, rfl, wh230, hfh230, Jh230, Kh230, rfl⟩
            · skip
              exfalso
              omega
        · skip
          refine tt_stop ?_
          rw [hQ]
          exact Or.inl ⟨dX7_turn_43, rfl, rfl, wh166, hfh166, Jh166, Kh166, rfl⟩
