abbrev mX7_run : tM := (RX7, cX7_run, 6, 8, 209, false)
set_option maxHeartbeats 4000000 in
theorem g_X7_run {l : Launch} {D : va_G} {N : Nat} {pk : Int} {τ : List Nat} (hN2 : 2 ≤ N) (hN8 : N ≤ 8) (hp0 : 0 ≤ pk) (hp64 : pk ≤ 64) {h : List tC} (hw : WT N pk τ h) (a0 : Nat) (ta0 : τ[a0]? = some 7) (a1 : Int32) (hI : I1 τ h) : TMc l D yX7_run cX7_run 6 (some .int) 8 209 0 0 [.inr (some a0), .inl a1] h (fun rv h' => WT N pk τ h' ∧ Fr PMo τ h h' ∧ I1 τ h' ∧ ∃ x : Int32, rv = some (.inl x) ∧ -2147483648 ≤ x.toInt ∧ x.toInt ≤ 2147483647) := by
  refine tmc_of false rfl (by decide) (Nat.le_of_ble_eq_true rfl) ?_
  suffices HQ : ∀ Q0, Q0 = tRt cX7_run (some .int) (fun rv h' => WT N pk τ h' ∧ Fr PMo τ h h' ∧ I1 τ h' ∧ ∃ x : Int32, rv = some (.inl x) ∧ -2147483648 ≤ x.toInt ∧ x.toInt ≤ 2147483647) → TT l D mX7_run Q0 0 0 0 [(0, .inr (some a0)), (1, .inl a1)] [] h from HQ _ rfl
  intro Q0 hQ
  have hf : Fr PMo τ h h := Fr.rf
  have B21 : ∀ (n21 : Nat) (hb : List tC) (hwb : WT N pk τ hb) (hfb : Fr PMo τ h hb) (la121 : 0 ≤ a1.toInt) (ua121 : a1.toInt ≤ 500) (x538 : Int32) (lx538 : 0 ≤ x538.toInt) (ux538 : x538.toInt ≤ 501) (x539 : Int32) (lx539 : 1 ≤ x539.toInt) (ux539 : x539.toInt ≤ 1) (hIb : I1 τ hb), 501 - x538.toInt < n21 → TT l D mX7_run Q0 0 0 21 [(0, .inr (some a0)), (1, .inl a1), (2, .inl x538), (3, .inl x539)] [] hb := by
    intro n21
    induction n21 with
    | zero =>
      intro hb hwb hfb la121 ua121 x538 lx538 ux538 x539 lx539 ux539 hIb hn21
      exfalso
      omega
    | succ n21 ih21 =>
      intro hb hwb hfb la121 ua121 x538 lx538 ux538 x539 lx539 ux539 hIb hn21
      have B33 : ∀ (n33 : Nat) (hb : List tC) (hwb : WT N pk τ hb) (hfb : Fr PMo τ h hb) (la133 : 1 ≤ a1.toInt) (ua133 : a1.toInt ≤ 500) (x540 : Int32) (lx540 : 0 ≤ x540.toInt) (ux540 : x540.toInt ≤ 500) (x541 : Int32) (lx541 : 0 ≤ x541.toInt) (ux541 : x541.toInt ≤ 24) (hIb : I1 τ hb) (hn21 : 501 - x540.toInt < ((n21 + 1 : Nat) : Int)), 24 - x541.toInt < n33 → TT l D mX7_run Q0 0 0 33 [(0, .inr (some a0)), (1, .inl a1), (2, .inl x540), (4, .inl x541)] [] hb := by
        intro n33
        induction n33 with
        | zero =>
          intro hb hwb hfb la133 ua133 x540 lx540 ux540 x541 lx541 ux541 hIb hn21 hn33
          exfalso
          omega
        | succ n33 ih33 =>
          intro hb hwb hfb la133 ua133 x540 lx540 ux540 x541 lx541 ux541 hIb hn21 hn33
          refine tt_iload (pc := 33) dX7_run_33 (.tail _ (.tail _ (.tail _ (.head _)))) ?_
          refine tw_bipush (pc := 35) dX7_run_35 (by decide) (fun x542 ex542 => ?_)
          refine tw_icmp (tgt := 56) (pc := 37) dX7_run_37 (by decide) (fun (c543 : x542.toInt ≤ x541.toInt) => ?_) (fun (c543 : ¬ (x542.toInt ≤ x541.toInt)) => ?_)
          · skip
            refine tt_iload (pc := 56) dX7_run_56 (.tail _ (.tail _ (.tail _ (.head _)))) ?_
            refine tw_bipush (pc := 58) dX7_run_58 (by decide) (fun x544 ex544 => ?_)
            refine tw_icmp (tgt := 67) (pc := 60) dX7_run_60 (by decide) (fun (c545 : x544.toInt ≤ x541.toInt) => ?_) (fun (c545 : ¬ (x544.toInt ≤ x541.toInt)) => ?_)
            · skip
              refine tw_iconst (pc := 67) dX7_run_67 (by decide) (fun x546 ex546 => ?_)
              refine tt_istore_n (pc := 68) dX7_run_68 (by decide) ?_
              show TT _ _ _ _ _ _ _ [(3, .inl x546), (0, .inr (some a0)), (1, .inl a1), (2, .inl x540), (4, .inl x541)] _ _
              refine tt_iload_n (pc := 69) dX7_run_69 (.head _) ?_
              refine tw_if (tgt := 84) (pc := 70) dX7_run_70 (by decide) (fun (c547 : x546.toInt = 0) => ?_) (fun (c547 : ¬ (x546.toInt = 0)) => ?_)
              · skip
                refine tt_goto (tgt := 21) (pc := 84) dX7_run_84 (by decide) ?_
                refine tt_iload_n (pc := 21) dX7_run_21 (.tail _ (.tail _ (.tail _ (.head _)))) ?_
                refine tt_iload_n (pc := 22) dX7_run_22 (.tail _ (.tail _ (.head _))) ?_
                refine tw_icmp (tgt := 87) (pc := 23) dX7_run_23 (by decide) (fun (c548 : a1.toInt ≤ x540.toInt) => ?_) (fun (c548 : ¬ (a1.toInt ≤ x540.toInt)) => ?_)
                · skip
                  refine tt_iload_n (pc := 87) dX7_run_87 (.tail _ (.tail _ (.tail _ (.head _)))) ?_
                  refine tt_stop ?_
                  rw [hQ]
                  exact Or.inr (Or.inl ⟨x540, dX7_run_88, rfl, Or.inl rfl, hwb, hfb, hIb, x540, rfl, by omega, by omega⟩)
                · skip
                  refine tt_iload_n (pc := 26) dX7_run_26 (.head _) ?_
                  refine tw_if (tgt := 87) (pc := 27) dX7_run_27 (by decide) (fun (c549 : x546.toInt = 0) => ?_) (fun (c549 : ¬ (x546.toInt = 0)) => ?_)
                  · skip
                    refine tt_iload_n (pc := 87) dX7_run_87 (.tail _ (.tail _ (.tail _ (.head _)))) ?_
                    refine tt_stop ?_
                    rw [hQ]
                    exact Or.inr (Or.inl ⟨x540, dX7_run_88, rfl, Or.inl rfl, hwb, hfb, hIb, x540, rfl, by omega, by omega⟩)
                  · skip
                    exfalso
                    omega
              · skip
                exfalso
                omega
            · skip
              exfalso
              omega
          · skip
            refine tt_aload_n (pc := 40) dX7_run_40 (.head _) ?_
            refine tw_getr (pc := 41) dX7_run_41 flX7_38 hwb ta0 (by decide) rfl (fun f550 q551 ef550 gf550 tq551 => ?_)
            refine tt_iload (pc := 44) dX7_run_44 (.tail _ (.tail _ (.tail _ (.head _)))) ?_
            refine tw_ild (pc := 46) dX7_run_46 hwb tq551 rfl (by omega) (by omega) (fun f553 x552 ef553 gf553 lx552 ux552 => ?_)
            refine tw_if (tgt := 56) (pc := 47) dX7_run_47 (by decide) (fun (c554 : x552.toInt ≠ 0) => ?_) (fun (c554 : ¬ (x552.toInt ≠ 0)) => ?_)
            · skip
              refine tt_iload (pc := 56) dX7_run_56 (.tail _ (.tail _ (.tail _ (.head _)))) ?_
              refine tw_bipush (pc := 58) dX7_run_58 (by decide) (fun x555 ex555 => ?_)
              refine tw_icmp (tgt := 67) (pc := 60) dX7_run_60 (by decide) (fun (c556 : x555.toInt ≤ x541.toInt) => ?_) (fun (c556 : ¬ (x555.toInt ≤ x541.toInt)) => ?_)
              · skip
                exfalso
                omega
              · skip
                refine tw_iconst (pc := 63) dX7_run_63 (by decide) (fun x557 ex557 => ?_)
                refine tt_goto (tgt := 68) (pc := 64) dX7_run_64 (by decide) ?_
                refine tt_istore_n (pc := 68) dX7_run_68 (by decide) ?_
                show TT _ _ _ _ _ _ _ [(3, .inl x557), (0, .inr (some a0)), (1, .inl a1), (2, .inl x540), (4, .inl x541)] _ _
                refine tt_iload_n (pc := 69) dX7_run_69 (.head _) ?_
                refine tw_if (tgt := 84) (pc := 70) dX7_run_70 (by decide) (fun (c558 : x557.toInt = 0) => ?_) (fun (c558 : ¬ (x557.toInt = 0)) => ?_)
                · skip
                  exfalso
                  omega
                · skip
                  refine tt_aload_n (pc := 73) dX7_run_73 (.tail _ (.head _)) ?_
                  refine tt_iload (pc := 74) dX7_run_74 (.tail _ (.tail _ (.tail _ (.tail _ (.head _))))) ?_
                  refine tw_callV (kc := 0) (ks := 0) (mc := 0) (ms := 0) (as := [.inl x541]) (st := []) (pc := 76) hwb ta0 (by decide) dX7_run_76 lkX7_215 imX7_come seX7_come rfl rfl (by decide) (by decide) (Nat.le_of_ble_eq_true rfl) (g_X7_come hN2 hN8 hp0 hp64 hwb a0 ta0 x541 (by omega) (by omega) hIb (fun k9 xs9 x9 tk9 e9 g9 => by
                    have z9 := arv_is hwb.2.2.2 (by decide) (⟨k9, 0, xs9, tk9, e9, g9⟩ : ARV _ _ 41 x541.toNatClampNeg x9) tq551 ef553 gf553 (by show x541.toInt.toNat = x541.toInt.toNat; omega)
                    rw [← z9]
                    omega)) (fun rv h559 qh559 => ?_)
                  obtain ⟨wh559, fh559, Jh559, x560, rfl, lx560, ux560⟩ := qh559
                  have hfh559 := hfb.tr (fh559.weak weak_PM_PMo)
                  show TT _ _ _ _ _ _ _ _ [.inl x560] _
                  refine tt_istore (pc := 79) dX7_run_79 (by decide) ?_
                  show TT _ _ _ _ _ _ _ [(5, .inl x560), (3, .inl x557), (0, .inr (some a0)), (1, .inl a1), (2, .inl x540), (4, .inl x541)] _ _
                  refine tw_iinc (pc := 81) dX7_run_81 (.tail _ (.tail _ (.tail _ (.tail _ (.head _))))) (by decide) (by decide) (by omega) (fun x561 ex561 => ?_)
                  show TT _ _ _ _ _ _ _ [(2, .inl x561), (5, .inl x560), (3, .inl x557), (0, .inr (some a0)), (1, .inl a1), (4, .inl x541)] _ _
                  refine tt_goto (tgt := 21) (pc := 84) dX7_run_84 (by decide) ?_
                  refine tt_loc [(0, .inr (some a0)), (1, .inl a1), (2, .inl x561), (3, .inl x557)] (List.forall_mem_cons.mpr ⟨(.tail _ (.tail _ (.tail _ (.head _)))), List.forall_mem_cons.mpr ⟨(.tail _ (.tail _ (.tail _ (.tail _ (.head _))))), List.forall_mem_cons.mpr ⟨(.head _), List.forall_mem_cons.mpr ⟨(.tail _ (.tail _ (.head _))), fun _ z => absurd z List.not_mem_nil⟩⟩⟩⟩) ?_
                  exact ih21 h559 wh559 hfh559 (by omega) (by omega) x561 (by omega) (by omega) x557 (by omega) (by omega) Jh559 (by omega)
            · skip
              refine tw_iinc (pc := 50) dX7_run_50 (.tail _ (.tail _ (.tail _ (.head _)))) (by decide) (by decide) (by omega) (fun x562 ex562 => ?_)
              show TT _ _ _ _ _ _ _ [(4, .inl x562), (0, .inr (some a0)), (1, .inl a1), (2, .inl x540)] _ _
              refine tt_goto (tgt := 33) (pc := 53) dX7_run_53 (by decide) ?_
              refine tt_loc [(0, .inr (some a0)), (1, .inl a1), (2, .inl x540), (4, .inl x562)] (List.forall_mem_cons.mpr ⟨(.tail _ (.head _)), List.forall_mem_cons.mpr ⟨(.tail _ (.tail _ (.head _))), List.forall_mem_cons.mpr ⟨(.tail _ (.tail _ (.tail _ (.head _)))), List.forall_mem_cons.mpr ⟨(.head _), fun _ z => absurd z List.not_mem_nil⟩⟩⟩⟩) ?_
              exact ih33 hb hwb hfb (by omega) (by omega) x540 (by omega) (by omega) x562 (by omega) (by omega) hIb (by omega) (by omega)
      refine tt_iload_n (pc := 21) dX7_run_21 (.tail _ (.tail _ (.head _))) ?_
      refine tt_iload_n (pc := 22) dX7_run_22 (.tail _ (.head _)) ?_
      refine tw_icmp (tgt := 87) (pc := 23) dX7_run_23 (by decide) (fun (c563 : a1.toInt ≤ x538.toInt) => ?_) (fun (c563 : ¬ (a1.toInt ≤ x538.toInt)) => ?_)
      · skip
        refine tt_iload_n (pc := 87) dX7_run_87 (.tail _ (.tail _ (.head _))) ?_
        refine tt_stop ?_
        rw [hQ]
        exact Or.inr (Or.inl ⟨x538, dX7_run_88, rfl, Or.inl rfl, hwb, hfb, hIb, x538, rfl, by omega, by omega⟩)
      · skip
        refine tt_iload_n (pc := 26) dX7_run_26 (.tail _ (.tail _ (.tail _ (.head _)))) ?_
        refine tw_if (tgt := 87) (pc := 27) dX7_run_27 (by decide) (fun (c564 : x539.toInt = 0) => ?_) (fun (c564 : ¬ (x539.toInt = 0)) => ?_)
        · skip
          exfalso
          omega
        · skip
          refine tw_iconst (pc := 30) dX7_run_30 (by decide) (fun x565 ex565 => ?_)
          refine tt_istore (pc := 31) dX7_run_31 (by decide) ?_
          show TT _ _ _ _ _ _ _ [(4, .inl x565), (0, .inr (some a0)), (1, .inl a1), (2, .inl x538), (3, .inl x539)] _ _
          refine tt_loc [(0, .inr (some a0)), (1, .inl a1), (2, .inl x538), (4, .inl x565)] (List.forall_mem_cons.mpr ⟨(.tail _ (.head _)), List.forall_mem_cons.mpr ⟨(.tail _ (.tail _ (.head _))), List.forall_mem_cons.mpr ⟨(.tail _ (.tail _ (.tail _ (.head _)))), List.forall_mem_cons.mpr ⟨(.head _), fun _ z => absurd z List.not_mem_nil⟩⟩⟩⟩) ?_
          exact B33 25 hb hwb hfb (by omega) (by omega) x538 (by omega) (by omega) x565 (by omega) (by omega) hIb (by omega) (by omega)
  have ba1 := i_ty a1
  refine tt_aload_n (pc := 0) dX7_run_0 (.head _) ?_
  refine tt_iload_n (pc := 1) dX7_run_1 (.tail _ (.head _)) ?_
  refine tw_sipush (pc := 2) dX7_run_2 (by decide) (fun x566 ex566 => ?_)
  refine tt_callS (kc := 0) (ks := 0) (mc := 0) (ms := 0) (as := [.inl a1, .inl x566]) (st := [.inr (some a0)]) (pc := 5) dX7_run_5 lkX7_99 smX7_in rfl (by decide) (by decide) (Nat.le_of_ble_eq_true rfl) (g_X7_in hN2 hN8 hp0 hp64 hw a1 x566) (fun rv h567 qh567 => ?_)
  obtain ⟨rfl, x568, rfl, lx568, ux568, Gx568, Zx568⟩ := qh567
  show TT _ _ _ _ _ _ _ _ [.inl x568, .inr (some a0)] _
  refine tw_iconst (pc := 8) dX7_run_8 (by decide) (fun x571 ex571 => ?_)
  refine tw_callV (kc := 0) (ks := 0) (mc := 0) (ms := 0) (as := [.inl x568, .inl x571]) (st := []) (pc := 9) hw ta0 (by decide) dX7_run_9 lkX7_193 imX7_goes seX7_goes rfl rfl (by decide) (by decide) (Nat.le_of_ble_eq_true rfl) (g_X7_goesE hN2 hN8 hp0 hp64 hw a0 ta0 x568 (by omega) (by omega) x571 (by omega) (by omega)) (fun rv h572 qh572 => ?_)
  obtain ⟨wh572, fh572, x574, x575, rfl, ⟨fsh572, eh572, gh572⟩, ⟨lx574, ux574⟩, Ah572, Bh572, Ch572⟩ := qh572
  have hfh572 := hf.tr (fh572.weak weak_PMg_PMo)
  have Jh572 := i1_fr fh572 (by decide) (by decide) (by decide) (by decide) hI
  show TT _ _ _ _ _ _ _ _ [.inl x574] _
  refine tw_if (tgt := 17) (pc := 12) dX7_run_12 (by decide) (fun (c578 : x574.toInt ≠ 0) => ?_) (fun (c578 : ¬ (x574.toInt ≠ 0)) => ?_)
  · skip
    obtain ⟨b576, b577⟩ := (fun zz => (show x568.toInt = 1 ∧ x571.toInt = 1 from by omega)) (by omega)
    obtain ⟨b569, b570⟩ := Gx568 (by omega)
    refine tw_iconst (pc := 17) dX7_run_17 (by decide) (fun x579 ex579 => ?_)
    refine tt_istore_n (pc := 18) dX7_run_18 (by decide) ?_
    show TT _ _ _ _ _ _ _ [(2, .inl x579), (0, .inr (some a0)), (1, .inl a1)] _ _
    refine tw_iconst (pc := 19) dX7_run_19 (by decide) (fun x580 ex580 => ?_)
    refine tt_istore_n (pc := 20) dX7_run_20 (by decide) ?_
    show TT _ _ _ _ _ _ _ [(3, .inl x580), (2, .inl x579), (0, .inr (some a0)), (1, .inl a1)] _ _
    refine tt_loc [(0, .inr (some a0)), (1, .inl a1), (2, .inl x579), (3, .inl x580)] (List.forall_mem_cons.mpr ⟨(.tail _ (.tail _ (.head _))), List.forall_mem_cons.mpr ⟨(.tail _ (.tail _ (.tail _ (.head _)))), List.forall_mem_cons.mpr ⟨(.tail _ (.head _)), List.forall_mem_cons.mpr ⟨(.head _), fun _ z => absurd z List.not_mem_nil⟩⟩⟩⟩) ?_
    exact B21 502 h572 wh572 hfh572 (by omega) (by omega) x579 (by omega) (by omega) x580 (by omega) (by omega) Jh572 (by omega)
  · skip
    refine tw_iconst (pc := 15) dX7_run_15 (by decide) (fun x581 ex581 => ?_)
    refine tt_stop ?_
    rw [hQ]
    exact Or.inr (Or.inl ⟨x581, dX7_run_16, rfl, Or.inl rfl, wh572, hfh572, Jh572, x581, rfl, by omega, by omega⟩)
