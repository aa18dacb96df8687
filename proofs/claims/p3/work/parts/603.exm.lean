set_option maxHeartbeats 4000000 in
theorem g_X7_attachE {l : Launch} {D : va_G} {N : Nat} {pk : Int} {τ : List Nat} (hN2 : 2 ≤ N) (hN8 : N ≤ 8) (hp0 : 0 ≤ pk) (hp64 : pk ≤ 64) {h : List tC} (hw : WT N pk τ h) (a0 : Nat) (ta0 : τ[a0]? = some 7) (a1 : Int32) (a2 : Int32) (hI : I1 τ h) : TMc l D yX7_attach cX7_attach 5 none 6 153 0 0 [.inr (some a0), .inl a1, .inl a2] h (fun rv h' => WT N pk τ h' ∧ Fr PMa τ h h' ∧ I1 τ h' ∧ rv = none ∧ ∃ t : Int32, THR h' a0 t ∧ ((¬ (0 ≤ a1.toInt ∧ a1.toInt ≤ 7 ∧ -1 ≤ a2.toInt ∧ a2.toInt ≤ (N : Int) - 1) ∧ t.toInt = 1 ∧ Fr PMg τ h h') ∨ ((0 ≤ a1.toInt ∧ a1.toInt ≤ 7 ∧ -1 ≤ a2.toInt ∧ a2.toInt ≤ (N : Int) - 1) ∧ t.toInt = 2 ∧ Fr PMg τ h h' ∧ ∃ v : Int32, ARV τ h 37 a1.toNatClampNeg v ∧ v.toInt = a2.toInt) ∨ ((0 ≤ a1.toInt ∧ a1.toInt ≤ 7 ∧ -1 ≤ a2.toInt ∧ a2.toInt ≤ (N : Int) - 1) ∧ t.toInt = 0 ∧ ∃ (k : Nat) (xs : List Int32) (v : Int32), τ[k]? = some 37 ∧ h[k]? = some (.inl (0, xs)) ∧ xs[a1.toNatClampNeg]? = some v ∧ v.toInt ≠ a2.toInt ∧ h'[k]? = some (.inl (0, xs.set a1.toNatClampNeg a2))))) := by
  refine tmc_of false rfl (by decide) (Nat.le_of_ble_eq_true rfl) ?_
  suffices HQ : ∀ Q0, Q0 = tRt cX7_attach none (fun rv h' => WT N pk τ h' ∧ Fr PMa τ h h' ∧ I1 τ h' ∧ rv = none ∧ ∃ t : Int32, THR h' a0 t ∧ ((¬ (0 ≤ a1.toInt ∧ a1.toInt ≤ 7 ∧ -1 ≤ a2.toInt ∧ a2.toInt ≤ (N : Int) - 1) ∧ t.toInt = 1 ∧ Fr PMg τ h h') ∨ ((0 ≤ a1.toInt ∧ a1.toInt ≤ 7 ∧ -1 ≤ a2.toInt ∧ a2.toInt ≤ (N : Int) - 1) ∧ t.toInt = 2 ∧ Fr PMg τ h h' ∧ ∃ v : Int32, ARV τ h 37 a1.toNatClampNeg v ∧ v.toInt = a2.toInt) ∨ ((0 ≤ a1.toInt ∧ a1.toInt ≤ 7 ∧ -1 ≤ a2.toInt ∧ a2.toInt ≤ (N : Int) - 1) ∧ t.toInt = 0 ∧ ∃ (k : Nat) (xs : List Int32) (v : Int32), τ[k]? = some 37 ∧ h[k]? = some (.inl (0, xs)) ∧ xs[a1.toNatClampNeg]? = some v ∧ v.toInt ≠ a2.toInt ∧ h'[k]? = some (.inl (0, xs.set a1.toNatClampNeg a2))))) → TT l D mX7_attach Q0 0 0 0 [(0, .inr (some a0)), (1, .inl a1), (2, .inl a2)] [] h from HQ _ rfl
  intro Q0 hQ
  have hf : Fr PMa τ h h := Fr.rf
  have ba1 := i_ty a1
  have ba2 := i_ty a2
  refine tt_iload_n (pc := 0) dX7_attach_0 (.tail _ (.head _)) ?_
  refine tw_bipush (pc := 1) dX7_attach_1 (by decide) (fun x132 ex132 => ?_)
  refine tt_callS (kc := 0) (ks := 0) (mc := 0) (ms := 0) (as := [.inl a1, .inl x132]) (st := []) (pc := 3) dX7_attach_3 lkX7_99 smX7_in rfl (by decide) (by decide) (Nat.le_of_ble_eq_true rfl) (g_X7_in hN2 hN8 hp0 hp64 hw a1 x132) (fun rv h133 qh133 => ?_)
  obtain ⟨rfl, x134, rfl, lx134, ux134, Gx134, Zx134⟩ := qh133
  show TT _ _ _ _ _ _ _ _ [.inl x134] _
  refine tw_if (tgt := 26) (pc := 6) dX7_attach_6 (by decide) (fun (c137 : x134.toInt = 0) => ?_) (fun (c137 : ¬ (x134.toInt = 0)) => ?_)
  · skip
    refine tw_iconst (pc := 26) dX7_attach_26 (by decide) (fun x138 ex138 => ?_)
    refine tt_istore_n (pc := 27) dX7_attach_27 (by decide) ?_
    show TT _ _ _ _ _ _ _ [(3, .inl x138), (0, .inr (some a0)), (1, .inl a1), (2, .inl a2)] _ _
    refine tt_aload_n (pc := 28) dX7_attach_28 (.tail _ (.head _)) ?_
    refine tt_iload_n (pc := 29) dX7_attach_29 (.head _) ?_
    refine tt_iload_n (pc := 30) dX7_attach_30 (.head _) ?_
    refine tw_if (tgt := 48) (pc := 31) dX7_attach_31 (by decide) (fun (c139 : x138.toInt = 0) => ?_) (fun (c139 : ¬ (x138.toInt = 0)) => ?_)
    · skip
      refine tw_iconst (pc := 48) dX7_attach_48 (by decide) (fun x140 ex140 => ?_)
      refine tw_callV (kc := 0) (ks := 0) (mc := 0) (ms := 0) (as := [.inl x138, .inl x140]) (st := []) (pc := 49) hw ta0 (by decide) dX7_attach_49 lkX7_193 imX7_goes seX7_goes rfl rfl (by decide) (by decide) (Nat.le_of_ble_eq_true rfl) (g_X7_goesE hN2 hN8 hp0 hp64 hw a0 ta0 x138 (by omega) (by omega) x140 (by omega) (by omega)) (fun rv h141 qh141 => ?_)
      obtain ⟨wh141, fh141, x143, x144, rfl, ⟨fsh141, eh141, gh141⟩, ⟨lx143, ux143⟩, Ah141, Bh141, Ch141⟩ := qh141
      have hfh141 := hf.tr (fh141.weak weak_PMg_PMa)
      have Jh141 := i1_fr fh141 (by decide) (by decide) (by decide) (by decide) hI
      show TT _ _ _ _ _ _ _ _ [.inl x143] _
      refine tw_if (tgt := 56) (pc := 52) dX7_attach_52 (by decide) (fun (c147 : x143.toInt ≠ 0) => ?_) (fun (c147 : ¬ (x143.toInt ≠ 0)) => ?_)
      · skip
        exfalso
        omega
      · skip
        refine tt_stop ?_
        rw [hQ]
        exact Or.inl ⟨dX7_attach_55, rfl, rfl, wh141, hfh141, Jh141, rfl, x144, ⟨_, eh141, gh141⟩, (by first | exact Or.inl ⟨by omega, by omega, fh141⟩)⟩
    · skip
      exfalso
      omega
  · skip
    obtain ⟨b135, b136⟩ := Gx134 (by omega)
    refine tt_iload_n (pc := 9) dX7_attach_9 (.tail _ (.tail _ (.head _))) ?_
    refine tw_iconst (pc := 10) dX7_attach_10 (by decide) (fun x148 ex148 => ?_)
    refine tw_icmp (tgt := 22) (pc := 11) dX7_attach_11 (by decide) (fun (c149 : a2.toInt = x148.toInt) => ?_) (fun (c149 : ¬ (a2.toInt = x148.toInt)) => ?_)
    · skip
      refine tw_iconst (pc := 22) dX7_attach_22 (by decide) (fun x150 ex150 => ?_)
      refine tt_goto (tgt := 27) (pc := 23) dX7_attach_23 (by decide) ?_
      refine tt_istore_n (pc := 27) dX7_attach_27 (by decide) ?_
      show TT _ _ _ _ _ _ _ [(3, .inl x150), (0, .inr (some a0)), (1, .inl a1), (2, .inl a2)] _ _
      refine tt_aload_n (pc := 28) dX7_attach_28 (.tail _ (.head _)) ?_
      refine tt_iload_n (pc := 29) dX7_attach_29 (.head _) ?_
      refine tt_iload_n (pc := 30) dX7_attach_30 (.head _) ?_
      refine tw_if (tgt := 48) (pc := 31) dX7_attach_31 (by decide) (fun (c151 : x150.toInt = 0) => ?_) (fun (c151 : ¬ (x150.toInt = 0)) => ?_)
      · skip
        exfalso
        omega
      · skip
        refine tt_aload_n (pc := 34) dX7_attach_34 (.tail _ (.head _)) ?_
        refine tw_getr (pc := 35) dX7_attach_35 flX7_26 hw ta0 (by decide) rfl (fun f152 q153 ef152 gf152 tq153 => ?_)
        refine tt_iload_n (pc := 38) dX7_attach_38 (.tail _ (.tail _ (.head _))) ?_
        refine tw_ild (pc := 39) dX7_attach_39 hw tq153 rfl (by omega) (by omega) (fun f155 x154 ef155 gf155 lx154 ux154 => ?_)
        refine tt_iload_n (pc := 40) dX7_attach_40 (.tail _ (.tail _ (.tail _ (.head _)))) ?_
        refine tw_icmp (tgt := 48) (pc := 41) dX7_attach_41 (by decide) (fun (c156 : x154.toInt = a2.toInt) => ?_) (fun (c156 : ¬ (x154.toInt = a2.toInt)) => ?_)
        · skip
          refine tw_iconst (pc := 48) dX7_attach_48 (by decide) (fun x157 ex157 => ?_)
          refine tw_callV (kc := 0) (ks := 0) (mc := 0) (ms := 0) (as := [.inl x150, .inl x157]) (st := []) (pc := 49) hw ta0 (by decide) dX7_attach_49 lkX7_193 imX7_goes seX7_goes rfl rfl (by decide) (by decide) (Nat.le_of_ble_eq_true rfl) (g_X7_goesE hN2 hN8 hp0 hp64 hw a0 ta0 x150 (by omega) (by omega) x157 (by omega) (by omega)) (fun rv h158 qh158 => ?_)
          obtain ⟨wh158, fh158, x160, x161, rfl, ⟨fsh158, eh158, gh158⟩, ⟨lx160, ux160⟩, Ah158, Bh158, Ch158⟩ := qh158
          have hfh158 := hf.tr (fh158.weak weak_PMg_PMa)
          have Jh158 := i1_fr fh158 (by decide) (by decide) (by decide) (by decide) hI
          obtain ⟨f162, E163, G164⟩ := fr_fld fh158 ta0 (by decide) ef152 gf152
          show TT _ _ _ _ _ _ _ _ [.inl x160] _
          refine tw_if (tgt := 56) (pc := 52) dX7_attach_52 (by decide) (fun (c167 : x160.toInt ≠ 0) => ?_) (fun (c167 : ¬ (x160.toInt ≠ 0)) => ?_)
          · skip
            exfalso
            omega
          · skip
            refine tt_stop ?_
            rw [hQ]
            exact Or.inl ⟨dX7_attach_55, rfl, rfl, wh158, hfh158, Jh158, rfl, x161, ⟨_, eh158, gh158⟩, (by first | exact Or.inl ⟨by omega, by omega, fh158⟩ | exact Or.inr (Or.inl ⟨⟨by omega, by omega, by omega, by omega⟩, by omega, fh158, x154, ⟨q153, _, _, tq153, ef155, gf155⟩, by omega⟩))⟩
        · skip
          refine tw_iconst (pc := 44) dX7_attach_44 (by decide) (fun x168 ex168 => ?_)
          refine tt_goto (tgt := 49) (pc := 45) dX7_attach_45 (by decide) ?_
          refine tw_callV (kc := 0) (ks := 0) (mc := 0) (ms := 0) (as := [.inl x150, .inl x168]) (st := []) (pc := 49) hw ta0 (by decide) dX7_attach_49 lkX7_193 imX7_goes seX7_goes rfl rfl (by decide) (by decide) (Nat.le_of_ble_eq_true rfl) (g_X7_goesE hN2 hN8 hp0 hp64 hw a0 ta0 x150 (by omega) (by omega) x168 (by omega) (by omega)) (fun rv h169 qh169 => ?_)
          obtain ⟨wh169, fh169, x171, x172, rfl, ⟨fsh169, eh169, gh169⟩, ⟨lx171, ux171⟩, Ah169, Bh169, Ch169⟩ := qh169
          have hfh169 := hf.tr (fh169.weak weak_PMg_PMa)
          have Jh169 := i1_fr fh169 (by decide) (by decide) (by decide) (by decide) hI
          obtain ⟨f173, E174, G175⟩ := fr_fld fh169 ta0 (by decide) ef152 gf152
          show TT _ _ _ _ _ _ _ _ [.inl x171] _
          refine tw_if (tgt := 56) (pc := 52) dX7_attach_52 (by decide) (fun (c178 : x171.toInt ≠ 0) => ?_) (fun (c178 : ¬ (x171.toInt ≠ 0)) => ?_)
          · skip
            obtain ⟨b176, b177⟩ := (fun zz => (show x150.toInt = 1 ∧ x168.toInt = 1 from by omega)) (by omega)
            refine tt_aload_n (pc := 56) dX7_attach_56 (.tail _ (.head _)) ?_
            refine tt_get (pc := 57) dX7_attach_57 flX7_26 E174 G175 ?_
            refine tt_iload_n (pc := 60) dX7_attach_60 (.tail _ (.tail _ (.head _))) ?_
            refine tw_ild (pc := 61) dX7_attach_61 wh169 tq153 rfl (by omega) (by omega) (fun f180 x179 ef180 gf180 lx179 ux179 => ?_)
            refine tt_istore (pc := 62) dX7_attach_62 (by decide) ?_
            show TT _ _ _ _ _ _ _ [(4, .inl x179), (3, .inl x150), (0, .inr (some a0)), (1, .inl a1), (2, .inl a2)] _ _
            refine tt_aload_n (pc := 64) dX7_attach_64 (.tail _ (.tail _ (.head _))) ?_
            refine tt_get (pc := 65) dX7_attach_65 flX7_26 E174 G175 ?_
            refine tt_iload_n (pc := 68) dX7_attach_68 (.tail _ (.tail _ (.tail _ (.head _)))) ?_
            refine tt_iload_n (pc := 69) dX7_attach_69 (.tail _ (.tail _ (.tail _ (.tail _ (.head _))))) ?_
            refine tw_ist (P := (PEX 37)) (pc := 70) dX7_attach_70 wh169 tq153 rfl (by omega) (by omega) (by omega) (by omega) (by decide) (fun f181 h182 eh182 gh182 kh182 wh182 fh182 => ?_)
            have hfh182 := hfh169.tr (fh182.weak (weak_PEX (fun _ => rfl)))
            have Jh182 := i1_fr fh182 (by decide) (by decide) (by decide) (by decide) Jh169
            obtain ⟨f183, E184, G185⟩ := fr_fld fh182 ta0 (by decide) E174 G175
            obtain ⟨f186, E187, G188⟩ := fr_fld fh182 ta0 (by decide) eh169 gh169
            have ek9 : q153 = q153 := wh182.2.2.2 _ _ 37 (by decide) tq153 tq153
            have G9 : h182[q153]? = some (.inl (0, f155.set a1.toNatClampNeg a2)) := by
              have z0 := gh182
              have z1 := fr_arrB fh169 tq153 (by decide) eh182
              rw [ek9] at z0 z1
              rw [ef155] at z1
              cases z1
              exact z0
            have T9 : THR h182 a0 x172 := thr_fr fh182 ta0 rfl ⟨_, eh169, gh169⟩
            have F2h182 : Fr PK37 τ h182 h182 := Fr.rf
            refine tt_iload (pc := 71) dX7_attach_71 (.head _) ?_
            refine tw_iconst (pc := 73) dX7_attach_73 (by decide) (fun x189 ex189 => ?_)
            refine tw_icmp (tgt := 89) (pc := 74) dX7_attach_74 (by decide) (fun (c190 : x179.toInt = x189.toInt) => ?_) (fun (c190 : ¬ (x179.toInt = x189.toInt)) => ?_)
            · skip
              refine tt_iload_n (pc := 89) dX7_attach_89 (.tail _ (.tail _ (.tail _ (.tail _ (.head _))))) ?_
              refine tw_iconst (pc := 90) dX7_attach_90 (by decide) (fun x191 ex191 => ?_)
              refine tw_icmp (tgt := 104) (pc := 91) dX7_attach_91 (by decide) (fun (c192 : a2.toInt = x191.toInt) => ?_) (fun (c192 : ¬ (a2.toInt = x191.toInt)) => ?_)
              · skip
                refine tt_stop ?_
                rw [hQ]
                exact Or.inl ⟨dX7_attach_104, rfl, rfl, wh182, hfh182, Jh182, rfl, x172, thr_fr F2h182 ta0 rfl T9, Or.inr (Or.inr ⟨⟨by omega, by omega, by omega, by omega⟩, by omega, q153, f155, x154, tq153, ef155, gf155, by omega, fr_arrI F2h182 tq153 rfl G9⟩)⟩
              · skip
                exfalso
                omega
            · skip
              refine tt_aload_n (pc := 77) dX7_attach_77 (.tail _ (.tail _ (.head _))) ?_
              refine tt_iload (pc := 78) dX7_attach_78 (.head _) ?_
              refine tw_callV (kc := 0) (ks := 0) (mc := 0) (ms := 0) (as := [.inl x179]) (st := []) (pc := 80) wh182 ta0 (by decide) dX7_attach_80 lkX7_200 imX7_tell seX7_tell rfl rfl (by decide) (by decide) (Nat.le_of_ble_eq_true rfl) (g_X7_tellE hN2 hN8 hp0 hp64 wh182 a0 ta0 x179 (by omega) (by omega)) (fun rv h193 qh193 => ?_)
              obtain ⟨wh193, fh193, rfl, ownh193, rrh193⟩ := qh193
              have hfh193 := hfh182.tr (fh193.weak weak_PM_PMa)
              have F2h193 := F2h182.tr (fh193.weak (only37 (fun _ => rfl) rfl))
              have Jh193 := i1_all ownh193 rrh193 Jh182
              show TT _ _ _ _ _ _ _ _ [] _
              refine tt_aload_n (pc := 83) dX7_attach_83 (.tail _ (.tail _ (.head _))) ?_
              refine tt_iload (pc := 84) dX7_attach_84 (.head _) ?_
              refine tw_callV (kc := 0) (ks := 0) (mc := 0) (ms := 0) (as := [.inl x179]) (st := []) (pc := 86) wh193 ta0 (by decide) dX7_attach_86 lkX7_170 imX7_check seX7_check rfl rfl (by decide) (by decide) (Nat.le_of_ble_eq_true rfl) (g_X7_check hN2 hN8 hp0 hp64 wh193 a0 ta0 x179 (by omega) (by omega)) (fun rv h194 qh194 => ?_)
              obtain ⟨wh194, fh194, rfl⟩ := qh194
              have hfh194 := hfh193.tr (fh194.weak weak_PMk_PMa)
              have F2h194 := F2h193.tr (fh194.weak (only37 (fun _ => rfl) rfl))
              have Jh194 := i1_fr fh194 (by decide) (by decide) (by decide) (by decide) Jh193
              show TT _ _ _ _ _ _ _ _ [] _
              refine tt_iload_n (pc := 89) dX7_attach_89 (.tail _ (.tail _ (.tail _ (.tail _ (.head _))))) ?_
              refine tw_iconst (pc := 90) dX7_attach_90 (by decide) (fun x195 ex195 => ?_)
              refine tw_icmp (tgt := 104) (pc := 91) dX7_attach_91 (by decide) (fun (c196 : a2.toInt = x195.toInt) => ?_) (fun (c196 : ¬ (a2.toInt = x195.toInt)) => ?_)
              · skip
                refine tt_stop ?_
                rw [hQ]
                exact Or.inl ⟨dX7_attach_104, rfl, rfl, wh194, hfh194, Jh194, rfl, x172, thr_fr F2h194 ta0 rfl T9, Or.inr (Or.inr ⟨⟨by omega, by omega, by omega, by omega⟩, by omega, q153, f155, x154, tq153, ef155, gf155, by omega, fr_arrI F2h194 tq153 rfl G9⟩)⟩
              · skip
                exfalso
                omega
          · skip
            refine tt_stop ?_
            rw [hQ]
            exact Or.inl ⟨dX7_attach_55, rfl, rfl, wh169, hfh169, Jh169, rfl, x172, ⟨_, eh169, gh169⟩, (by first | exact Or.inl ⟨by omega, by omega, fh169⟩ | exact Or.inr (Or.inl ⟨⟨by omega, by omega, by omega, by omega⟩, by omega, fh169, x154, ⟨q153, _, _, tq153, ef155, gf155⟩, by omega⟩))⟩
    · skip
      refine tt_aload_n (pc := 14) dX7_attach_14 (.head _) ?_
      refine tt_iload_n (pc := 15) dX7_attach_15 (.tail _ (.tail _ (.head _))) ?_
      refine tw_callV (kc := 0) (ks := 0) (mc := 0) (ms := 0) (as := [.inl a2]) (st := []) (pc := 16) hw ta0 (by decide) dX7_attach_16 lkX7_189 imX7_isRouter seX7_isRouter rfl rfl (by decide) (by decide) (Nat.le_of_ble_eq_true rfl) (g_X7_isRouter hN2 hN8 hp0 hp64 hw a0 ta0 a2) (fun rv h197 qh197 => ?_)
      obtain ⟨rfl, x198, rfl, lx198, ux198, Gx198, Zx198⟩ := qh197
      show TT _ _ _ _ _ _ _ _ [.inl x198] _
      refine tw_if (tgt := 26) (pc := 19) dX7_attach_19 (by decide) (fun (c201 : x198.toInt = 0) => ?_) (fun (c201 : ¬ (x198.toInt = 0)) => ?_)
      · skip
        refine tw_iconst (pc := 26) dX7_attach_26 (by decide) (fun x202 ex202 => ?_)
        refine tt_istore_n (pc := 27) dX7_attach_27 (by decide) ?_
        show TT _ _ _ _ _ _ _ [(3, .inl x202), (0, .inr (some a0)), (1, .inl a1), (2, .inl a2)] _ _
        refine tt_aload_n (pc := 28) dX7_attach_28 (.tail _ (.head _)) ?_
        refine tt_iload_n (pc := 29) dX7_attach_29 (.head _) ?_
        refine tt_iload_n (pc := 30) dX7_attach_30 (.head _) ?_
        refine tw_if (tgt := 48) (pc := 31) dX7_attach_31 (by decide) (fun (c203 : x202.toInt = 0) => ?_) (fun (c203 : ¬ (x202.toInt = 0)) => ?_)
        · skip
          refine tw_iconst (pc := 48) dX7_attach_48 (by decide) (fun x204 ex204 => ?_)
          refine tw_callV (kc := 0) (ks := 0) (mc := 0) (ms := 0) (as := [.inl x202, .inl x204]) (st := []) (pc := 49) hw ta0 (by decide) dX7_attach_49 lkX7_193 imX7_goes seX7_goes rfl rfl (by decide) (by decide) (Nat.le_of_ble_eq_true rfl) (g_X7_goesE hN2 hN8 hp0 hp64 hw a0 ta0 x202 (by omega) (by omega) x204 (by omega) (by omega)) (fun rv h205 qh205 => ?_)
          obtain ⟨wh205, fh205, x207, x208, rfl, ⟨fsh205, eh205, gh205⟩, ⟨lx207, ux207⟩, Ah205, Bh205, Ch205⟩ := qh205
          have hfh205 := hf.tr (fh205.weak weak_PMg_PMa)
          have Jh205 := i1_fr fh205 (by decide) (by decide) (by decide) (by decide) hI
          show TT _ _ _ _ _ _ _ _ [.inl x207] _
          refine tw_if (tgt := 56) (pc := 52) dX7_attach_52 (by decide) (fun (c211 : x207.toInt ≠ 0) => ?_) (fun (c211 : ¬ (x207.toInt ≠ 0)) => ?_)
          · skip
            exfalso
            omega
          · skip
            refine tt_stop ?_
            rw [hQ]
            exact Or.inl ⟨dX7_attach_55, rfl, rfl, wh205, hfh205, Jh205, rfl, x208, ⟨_, eh205, gh205⟩, (by first | exact Or.inl ⟨by omega, by omega, fh205⟩)⟩
        · skip
          exfalso
          omega
      · skip
        obtain ⟨b199, b200⟩ := Gx198 (by omega)
        refine tw_iconst (pc := 22) dX7_attach_22 (by decide) (fun x212 ex212 => ?_)
        refine tt_goto (tgt := 27) (pc := 23) dX7_attach_23 (by decide) ?_
        refine tt_istore_n (pc := 27) dX7_attach_27 (by decide) ?_
        show TT _ _ _ _ _ _ _ [(3, .inl x212), (0, .inr (some a0)), (1, .inl a1), (2, .inl a2)] _ _
        refine tt_aload_n (pc := 28) dX7_attach_28 (.tail _ (.head _)) ?_
        refine tt_iload_n (pc := 29) dX7_attach_29 (.head _) ?_
        refine tt_iload_n (pc := 30) dX7_attach_30 (.head _) ?_
        refine tw_if (tgt := 48) (pc := 31) dX7_attach_31 (by decide) (fun (c213 : x212.toInt = 0) => ?_) (fun (c213 : ¬ (x212.toInt = 0)) => ?_)
        · skip
          exfalso
          omega
        · skip
          refine tt_aload_n (pc := 34) dX7_attach_34 (.tail _ (.head _)) ?_
          refine tw_getr (pc := 35) dX7_attach_35 flX7_26 hw ta0 (by decide) rfl (fun f214 q215 ef214 gf214 tq215 => ?_)
          refine tt_iload_n (pc := 38) dX7_attach_38 (.tail _ (.tail _ (.head _))) ?_
          refine tw_ild (pc := 39) dX7_attach_39 hw tq215 rfl (by omega) (by omega) (fun f217 x216 ef217 gf217 lx216 ux216 => ?_)
          refine tt_iload_n (pc := 40) dX7_attach_40 (.tail _ (.tail _ (.tail _ (.head _)))) ?_
          refine tw_icmp (tgt := 48) (pc := 41) dX7_attach_41 (by decide) (fun (c218 : x216.toInt = a2.toInt) => ?_) (fun (c218 : ¬ (x216.toInt = a2.toInt)) => ?_)
          · skip
            refine tw_iconst (pc := 48) dX7_attach_48 (by decide) (fun x219 ex219 => ?_)
            refine tw_callV (kc := 0) (ks := 0) (mc := 0) (ms := 0) (as := [.inl x212, .inl x219]) (st := []) (pc := 49) hw ta0 (by decide) dX7_attach_49 lkX7_193 imX7_goes seX7_goes rfl rfl (by decide) (by decide) (Nat.le_of_ble_eq_true rfl) (g_X7_goesE hN2 hN8 hp0 hp64 hw a0 ta0 x212 (by omega) (by omega) x219 (by omega) (by omega)) (fun rv h220 qh220 => ?_)
            obtain ⟨wh220, fh220, x222, x223, rfl, ⟨fsh220, eh220, gh220⟩, ⟨lx222, ux222⟩, Ah220, Bh220, Ch220⟩ := qh220
            have hfh220 := hf.tr (fh220.weak weak_PMg_PMa)
            have Jh220 := i1_fr fh220 (by decide) (by decide) (by decide) (by decide) hI
            obtain ⟨f224, E225, G226⟩ := fr_fld fh220 ta0 (by decide) ef214 gf214
            show TT _ _ _ _ _ _ _ _ [.inl x222] _
            refine tw_if (tgt := 56) (pc := 52) dX7_attach_52 (by decide) (fun (c229 : x222.toInt ≠ 0) => ?_) (fun (c229 : ¬ (x222.toInt ≠ 0)) => ?_)
            · skip
              exfalso
              omega
            · skip
              refine tt_stop ?_
              rw [hQ]
              exact Or.inl ⟨dX7_attach_55, rfl, rfl, wh220, hfh220, Jh220, rfl, x223, ⟨_, eh220, gh220⟩, (by first | exact Or.inl ⟨by omega, by omega, fh220⟩ | exact Or.inr (Or.inl ⟨⟨by omega, by omega, by omega, by omega⟩, by omega, fh220, x216, ⟨q215, _, _, tq215, ef217, gf217⟩, by omega⟩))⟩
          · skip
            refine tw_iconst (pc := 44) dX7_attach_44 (by decide) (fun x230 ex230 => ?_)
            refine tt_goto (tgt := 49) (pc := 45) dX7_attach_45 (by decide) ?_
            refine tw_callV (kc := 0) (ks := 0) (mc := 0) (ms := 0) (as := [.inl x212, .inl x230]) (st := []) (pc := 49) hw ta0 (by decide) dX7_attach_49 lkX7_193 imX7_goes seX7_goes rfl rfl (by decide) (by decide) (Nat.le_of_ble_eq_true rfl) (g_X7_goesE hN2 hN8 hp0 hp64 hw a0 ta0 x212 (by omega) (by omega) x230 (by omega) (by omega)) (fun rv h231 qh231 => ?_)
            obtain ⟨wh231, fh231, x233, x234, rfl, ⟨fsh231, eh231, gh231⟩, ⟨lx233, ux233⟩, Ah231, Bh231, Ch231⟩ := qh231
            have hfh231 := hf.tr (fh231.weak weak_PMg_PMa)
            have Jh231 := i1_fr fh231 (by decide) (by decide) (by decide) (by decide) hI
            obtain ⟨f235, E236, G237⟩ := fr_fld fh231 ta0 (by decide) ef214 gf214
            show TT _ _ _ _ _ _ _ _ [.inl x233] _
            refine tw_if (tgt := 56) (pc := 52) dX7_attach_52 (by decide) (fun (c240 : x233.toInt ≠ 0) => ?_) (fun (c240 : ¬ (x233.toInt ≠ 0)) => ?_)
            · skip
              obtain ⟨b238, b239⟩ := (fun zz => (show x212.toInt = 1 ∧ x230.toInt = 1 from by omega)) (by omega)
              refine tt_aload_n (pc := 56) dX7_attach_56 (.tail _ (.head _)) ?_
              refine tt_get (pc := 57) dX7_attach_57 flX7_26 E236 G237 ?_
              refine tt_iload_n (pc := 60) dX7_attach_60 (.tail _ (.tail _ (.head _))) ?_
              refine tw_ild (pc := 61) dX7_attach_61 wh231 tq215 rfl (by omega) (by omega) (fun f242 x241 ef242 gf242 lx241 ux241 => ?_)
              refine tt_istore (pc := 62) dX7_attach_62 (by decide) ?_
              show TT _ _ _ _ _ _ _ [(4, .inl x241), (3, .inl x212), (0, .inr (some a0)), (1, .inl a1), (2, .inl a2)] _ _
              refine tt_aload_n (pc := 64) dX7_attach_64 (.tail _ (.tail _ (.head _))) ?_
              refine tt_get (pc := 65) dX7_attach_65 flX7_26 E236 G237 ?_
              refine tt_iload_n (pc := 68) dX7_attach_68 (.tail _ (.tail _ (.tail _ (.head _)))) ?_
              refine tt_iload_n (pc := 69) dX7_attach_69 (.tail _ (.tail _ (.tail _ (.tail _ (.head _))))) ?_
              refine tw_ist (P := (PEX 37)) (pc := 70) dX7_attach_70 wh231 tq215 rfl (by omega) (by omega) (by omega) (by omega) (by decide) (fun f243 h244 eh244 gh244 kh244 wh244 fh244 => ?_)
              have hfh244 := hfh231.tr (fh244.weak (weak_PEX (fun _ => rfl)))
              have Jh244 := i1_fr fh244 (by decide) (by decide) (by decide) (by decide) Jh231
              obtain ⟨f245, E246, G247⟩ := fr_fld fh244 ta0 (by decide) E236 G237
              obtain ⟨f248, E249, G250⟩ := fr_fld fh244 ta0 (by decide) eh231 gh231
              have ek9 : q215 = q215 := wh244.2.2.2 _ _ 37 (by decide) tq215 tq215
              have G9 : h244[q215]? = some (.inl (0, f217.set a1.toNatClampNeg a2)) := by
                have z0 := gh244
                have z1 := fr_arrB fh231 tq215 (by decide) eh244
                rw [ek9] at z0 z1
                rw [ef217] at z1
                cases z1
                exact z0
              have T9 : THR h244 a0 x234 := thr_fr fh244 ta0 rfl ⟨_, eh231, gh231⟩
              have F2h244 : Fr PK37 τ h244 h244 := Fr.rf
              refine tt_iload (pc := 71) dX7_attach_71 (.head _) ?_
              refine tw_iconst (pc := 73) dX7_attach_73 (by decide) (fun x251 ex251 => ?_)
              refine tw_icmp (tgt := 89) (pc := 74) dX7_attach_74 (by decide) (fun (c252 : x241.toInt = x251.toInt) => ?_) (fun (c252 : ¬ (x241.toInt = x251.toInt)) => ?_)
              · skip
                refine tt_iload_n (pc := 89) dX7_attach_89 (.tail _ (.tail _ (.tail _ (.tail _ (.head _))))) ?_
                refine tw_iconst (pc := 90) dX7_attach_90 (by decide) (fun x253 ex253 => ?_)
                refine tw_icmp (tgt := 104) (pc := 91) dX7_attach_91 (by decide) (fun (c254 : a2.toInt = x253.toInt) => ?_) (fun (c254 : ¬ (a2.toInt = x253.toInt)) => ?_)
                · skip
                  exfalso
                  omega
                · skip
                  refine tt_aload_n (pc := 94) dX7_attach_94 (.tail _ (.tail _ (.head _))) ?_
                  refine tt_iload_n (pc := 95) dX7_attach_95 (.tail _ (.tail _ (.tail _ (.tail _ (.head _))))) ?_
                  refine tw_callV (kc := 0) (ks := 0) (mc := 0) (ms := 0) (as := [.inl a2]) (st := []) (pc := 96) wh244 ta0 (by decide) dX7_attach_96 lkX7_200 imX7_tell seX7_tell rfl rfl (by decide) (by decide) (Nat.le_of_ble_eq_true rfl) (g_X7_tellE hN2 hN8 hp0 hp64 wh244 a0 ta0 a2 (by omega) (by omega)) (fun rv h255 qh255 => ?_)
                  obtain ⟨wh255, fh255, rfl, ownh255, rrh255⟩ := qh255
                  have hfh255 := hfh244.tr (fh255.weak weak_PM_PMa)
                  have F2h255 := F2h244.tr (fh255.weak (only37 (fun _ => rfl) rfl))
                  have Jh255 := i1_all ownh255 rrh255 Jh244
                  show TT _ _ _ _ _ _ _ _ [] _
                  refine tt_aload_n (pc := 99) dX7_attach_99 (.tail _ (.tail _ (.head _))) ?_
                  refine tt_iload_n (pc := 100) dX7_attach_100 (.tail _ (.tail _ (.tail _ (.tail _ (.head _))))) ?_
                  refine tw_callV (kc := 0) (ks := 0) (mc := 0) (ms := 0) (as := [.inl a2]) (st := []) (pc := 101) wh255 ta0 (by decide) dX7_attach_101 lkX7_170 imX7_check seX7_check rfl rfl (by decide) (by decide) (Nat.le_of_ble_eq_true rfl) (g_X7_check hN2 hN8 hp0 hp64 wh255 a0 ta0 a2 (by omega) (by omega)) (fun rv h256 qh256 => ?_)
                  obtain ⟨wh256, fh256, rfl⟩ := qh256
                  have hfh256 := hfh255.tr (fh256.weak weak_PMk_PMa)
                  have F2h256 := F2h255.tr (fh256.weak (only37 (fun _ => rfl) rfl))
                  have Jh256 := i1_fr fh256 (by decide) (by decide) (by decide) (by decide) Jh255
                  show TT _ _ _ _ _ _ _ _ [] _
                  refine tt_stop ?_
                  rw [hQ]
                  exact Or.inl ⟨dX7_attach_104, rfl, rfl, wh256, hfh256, Jh256, rfl, x234, thr_fr F2h256 ta0 rfl T9, Or.inr (Or.inr ⟨⟨by omega, by omega, by omega, by omega⟩, by omega, q215, f217, x216, tq215, ef217, gf217, by omega, fr_arrI F2h256 tq215 rfl G9⟩)⟩
              · skip
                refine tt_aload_n (pc := 77) dX7_attach_77 (.tail _ (.tail _ (.head _))) ?_
                refine tt_iload (pc := 78) dX7_attach_78 (.head _) ?_
                refine tw_callV (kc := 0) (ks := 0) (mc := 0) (ms := 0) (as := [.inl x241]) (st := []) (pc := 80) wh244 ta0 (by decide) dX7_attach_80 lkX7_200 imX7_tell seX7_tell rfl rfl (by decide) (by decide) (Nat.le_of_ble_eq_true rfl) (g_X7_tellE hN2 hN8 hp0 hp64 wh244 a0 ta0 x241 (by omega) (by omega)) (fun rv h257 qh257 => ?_)
                obtain ⟨wh257, fh257, rfl, ownh257, rrh257⟩ := qh257
                have hfh257 := hfh244.tr (fh257.weak weak_PM_PMa)
                have F2h257 := F2h244.tr (fh257.weak (only37 (fun _ => rfl) rfl))
                have Jh257 := i1_all ownh257 rrh257 Jh244
                show TT _ _ _ _ _ _ _ _ [] _
                refine tt_aload_n (pc := 83) dX7_attach_83 (.tail _ (.tail _ (.head _))) ?_
                refine tt_iload (pc := 84) dX7_attach_84 (.head _) ?_
                refine tw_callV (kc := 0) (ks := 0) (mc := 0) (ms := 0) (as := [.inl x241]) (st := []) (pc := 86) wh257 ta0 (by decide) dX7_attach_86 lkX7_170 imX7_check seX7_check rfl rfl (by decide) (by decide) (Nat.le_of_ble_eq_true rfl) (g_X7_check hN2 hN8 hp0 hp64 wh257 a0 ta0 x241 (by omega) (by omega)) (fun rv h258 qh258 => ?_)
                obtain ⟨wh258, fh258, rfl⟩ := qh258
                have hfh258 := hfh257.tr (fh258.weak weak_PMk_PMa)
                have F2h258 := F2h257.tr (fh258.weak (only37 (fun _ => rfl) rfl))
                have Jh258 := i1_fr fh258 (by decide) (by decide) (by decide) (by decide) Jh257
                show TT _ _ _ _ _ _ _ _ [] _
                refine tt_iload_n (pc := 89) dX7_attach_89 (.tail _ (.tail _ (.tail _ (.tail _ (.head _))))) ?_
                refine tw_iconst (pc := 90) dX7_attach_90 (by decide) (fun x259 ex259 => ?_)
                refine tw_icmp (tgt := 104) (pc := 91) dX7_attach_91 (by decide) (fun (c260 : a2.toInt = x259.toInt) => ?_) (fun (c260 : ¬ (a2.toInt = x259.toInt)) => ?_)
                · skip
                  exfalso
                  omega
                · skip
                  refine tt_aload_n (pc := 94) dX7_attach_94 (.tail _ (.tail _ (.head _))) ?_
                  refine tt_iload_n (pc := 95) dX7_attach_95 (.tail _ (.tail _ (.tail _ (.tail _ (.head _))))) ?_
                  refine tw_callV (kc := 0) (ks := 0) (mc := 0) (ms := 0) (as := [.inl a2]) (st := []) (pc := 96) wh258 ta0 (by decide) dX7_attach_96 lkX7_200 imX7_tell seX7_tell rfl rfl (by decide) (by decide) (Nat.le_of_ble_eq_true rfl) (g_X7_tellE hN2 hN8 hp0 hp64 wh258 a0 ta0 a2 (by omega) (by omega)) (fun rv h261 qh261 => ?_)
                  obtain ⟨wh261, fh261, rfl, ownh261, rrh261⟩ := qh261
                  have hfh261 := hfh258.tr (fh261.weak weak_PM_PMa)
                  have F2h261 := F2h258.tr (fh261.weak (only37 (fun _ => rfl) rfl))
                  have Jh261 := i1_all ownh261 rrh261 Jh258
                  show TT _ _ _ _ _ _ _ _ [] _
                  refine tt_aload_n (pc := 99) dX7_attach_99 (.tail _ (.tail _ (.head _))) ?_
                  refine tt_iload_n (pc := 100) dX7_attach_100 (.tail _ (.tail _ (.tail _ (.tail _ (.head _))))) ?_
                  refine tw_callV (kc := 0) (ks := 0) (mc := 0) (ms := 0) (as := [.inl a2]) (st := []) (pc := 101) wh261 ta0 (by decide) dX7_attach_101 lkX7_170 imX7_check seX7_check rfl rfl (by decide) (by decide) (Nat.le_of_ble_eq_true rfl) (g_X7_check hN2 hN8 hp0 hp64 wh261 a0 ta0 a2 (by omega) (by omega)) (fun rv h262 qh262 => ?_)
                  obtain ⟨wh262, fh262, rfl⟩ := qh262
                  have hfh262 := hfh261.tr (fh262.weak weak_PMk_PMa)
                  have F2h262 := F2h261.tr (fh262.weak (only37 (fun _ => rfl) rfl))
                  have Jh262 := i1_fr fh262 (by decide) (by decide) (by decide) (by decide) Jh261
                  show TT _ _ _ _ _ _ _ _ [] _
                  refine tt_stop ?_
                  rw [hQ]
                  exact Or.inl ⟨dX7_attach_104, rfl, rfl, wh262, hfh262, Jh262, rfl, x234, thr_fr F2h262 ta0 rfl T9, Or.inr (Or.inr ⟨⟨by omega, by omega, by omega, by omega⟩, by omega, q215, f217, x216, tq215, ef217, gf217, by omega, fr_arrI F2h262 tq215 rfl G9⟩)⟩
            · skip
              refine tt_stop ?_
              rw [hQ]
              exact Or.inl ⟨dX7_attach_55, rfl, rfl, wh231, hfh231, Jh231, rfl, x234, ⟨_, eh231, gh231⟩, (by first | exact Or.inl ⟨by omega, by omega, fh231⟩ | exact Or.inr (Or.inl ⟨⟨by omega, by omega, by omega, by omega⟩, by omega, fh231, x216, ⟨q215, _, _, tq215, ef217, gf217⟩, by omega⟩))⟩
set_option maxHeartbeats 4000000 in
theorem g_X7_injectE {l : Launch} {D : va_G} {N : Nat} {pk : Int} {τ : List Nat} (hN2 : 2 ≤ N) (hN8 : N ≤ 8) (hp0 : 0 ≤ pk) (hp64 : pk ≤ 64) {h : List tC} (hw : WT N pk τ h) (a0 : Nat) (ta0 : τ[a0]? = some 7) (a1 : Int32) (a2 : Int32) (a3 : Int32) (hI : I1 τ h) : TMc l D yX7_inject cX7_inject 5 (some .int) 3 74 0 0 [.inr (some a0), .inl a1, .inl a2, .inl a3] h (fun rv h' => WT N pk τ h' ∧ Fr PMj τ h h' ∧ I1 τ h' ∧ ∃ t x : Int32, rv = some (.inl x) ∧ THR h' a0 t ∧ ((¬ (0 ≤ a1.toInt ∧ a1.toInt ≤ (N : Int) - 1 ∧ 0 ≤ a2.toInt ∧ a2.toInt ≤ 7) ∧ t.toInt = 1 ∧ Fr PMg τ h h') ∨ ((0 ≤ a1.toInt ∧ a1.toInt ≤ (N : Int) - 1 ∧ 0 ≤ a2.toInt ∧ a2.toInt ≤ 7) ∧ t.toInt = 2 ∧ Fr PMg τ h h' ∧ (a3.toInt < 0 ∨ 60 < a3.toInt ∨ ∃ n : Int32, PKC h a0 n ∧ 64 ≤ n.toInt)) ∨ ((0 ≤ a1.toInt ∧ a1.toInt ≤ (N : Int) - 1 ∧ 0 ≤ a2.toInt ∧ a2.toInt ≤ 7) ∧ t.toInt = 0 ∧ 0 ≤ a3.toInt ∧ a3.toInt ≤ 60 ∧ ∃ n n' : Int32, PKC h a0 n ∧ n.toInt < 64 ∧ PKC h' a0 n' ∧ n'.toInt = n.toInt + 1 ∧ x.toInt = n.toInt))) := by
  refine tmc_of false rfl (by decide) (Nat.le_of_ble_eq_true rfl) ?_
  suffices HQ : ∀ Q0, Q0 = tRt cX7_inject (some .int) (fun rv h' => WT N pk τ h' ∧ Fr PMj τ h h' ∧ I1 τ h' ∧ ∃ t x : Int32, rv = some (.inl x) ∧ THR h' a0 t ∧ ((¬ (0 ≤ a1.toInt ∧ a1.toInt ≤ (N : Int) - 1 ∧ 0 ≤ a2.toInt ∧ a2.toInt ≤ 7) ∧ t.toInt = 1 ∧ Fr PMg τ h h') ∨ ((0 ≤ a1.toInt ∧ a1.toInt ≤ (N : Int) - 1 ∧ 0 ≤ a2.toInt ∧ a2.toInt ≤ 7) ∧ t.toInt = 2 ∧ Fr PMg τ h h' ∧ (a3.toInt < 0 ∨ 60 < a3.toInt ∨ ∃ n : Int32, PKC h a0 n ∧ 64 ≤ n.toInt)) ∨ ((0 ≤ a1.toInt ∧ a1.toInt ≤ (N : Int) - 1 ∧ 0 ≤ a2.toInt ∧ a2.toInt ≤ 7) ∧ t.toInt = 0 ∧ 0 ≤ a3.toInt ∧ a3.toInt ≤ 60 ∧ ∃ n n' : Int32, PKC h a0 n ∧ n.toInt < 64 ∧ PKC h' a0 n' ∧ n'.toInt = n.toInt + 1 ∧ x.toInt = n.toInt))) → TT l D mX7_inject Q0 0 0 0 [(0, .inr (some a0)), (1, .inl a1), (2, .inl a2), (3, .inl a3)] [] h from HQ _ rfl
  intro Q0 hQ
  have hf : Fr PMj τ h h := Fr.rf
  have ba1 := i_ty a1
  have ba2 := i_ty a2
  have ba3 := i_ty a3
  refine tt_aload_n (pc := 0) dX7_inject_0 (.head _) ?_
  refine tt_aload_n (pc := 1) dX7_inject_1 (.head _) ?_
  refine tt_iload_n (pc := 2) dX7_inject_2 (.tail _ (.head _)) ?_
  refine tw_callV (kc := 0) (ks := 0) (mc := 0) (ms := 0) (as := [.inl a1]) (st := [.inr (some a0)]) (pc := 3) hw ta0 (by decide) dX7_inject_3 lkX7_189 imX7_isRouter seX7_isRouter rfl rfl (by decide) (by decide) (Nat.le_of_ble_eq_true rfl) (g_X7_isRouter hN2 hN8 hp0 hp64 hw a0 ta0 a1) (fun rv h203 qh203 => ?_)
  obtain ⟨rfl, x204, rfl, lx204, ux204, Gx204, Zx204⟩ := qh203
  show TT _ _ _ _ _ _ _ _ [.inl x204, .inr (some a0)] _
  refine tw_if (tgt := 22) (pc := 6) dX7_inject_6 (by decide) (fun (c207 : x204.toInt = 0) => ?_) (fun (c207 : ¬ (x204.toInt = 0)) => ?_)
  · skip
    refine tw_iconst (pc := 22) dX7_inject_22 (by decide) (fun x208 ex208 => ?_)
    refine tt_iload_n (pc := 23) dX7_inject_23 (.tail _ (.tail _ (.tail _ (.head _)))) ?_
    refine tw_bipush (pc := 24) dX7_inject_24 (by decide) (fun x209 ex209 => ?_)
    refine tt_callS (kc := 0) (ks := 0) (mc := 0) (ms := 0) (as := [.inl a3, .inl x209]) (st := [.inl x208, .inr (some a0)]) (pc := 26) dX7_inject_26 lkX7_99 smX7_in rfl (by decide) (by decide) (Nat.le_of_ble_eq_true rfl) (g_X7_in hN2 hN8 hp0 hp64 hw a3 x209) (fun rv h210 qh210 => ?_)
    obtain ⟨rfl, x211, rfl, lx211, ux211, Gx211, Zx211⟩ := qh210
    show TT _ _ _ _ _ _ _ _ [.inl x211, .inl x208, .inr (some a0)] _
    refine tw_if (tgt := 45) (pc := 29) dX7_inject_29 (by decide) (fun (c214 : x211.toInt = 0) => ?_) (fun (c214 : ¬ (x211.toInt = 0)) => ?_)
    · skip
      refine tw_iconst (pc := 45) dX7_inject_45 (by decide) (fun x215 ex215 => ?_)
      refine tw_callV (kc := 0) (ks := 0) (mc := 0) (ms := 0) (as := [.inl x208, .inl x215]) (st := []) (pc := 46) hw ta0 (by decide) dX7_inject_46 lkX7_193 imX7_goes seX7_goes rfl rfl (by decide) (by decide) (Nat.le_of_ble_eq_true rfl) (g_X7_goesE hN2 hN8 hp0 hp64 hw a0 ta0 x208 (by omega) (by omega) x215 (by omega) (by omega)) (fun rv h216 qh216 => ?_)
      obtain ⟨wh216, fh216, x218, x219, rfl, ⟨fsh216, eh216, gh216⟩, ⟨lx218, ux218⟩, Ah216, Bh216, Ch216⟩ := qh216
      have hfh216 := hf.tr (fh216.weak weak_PMg_PMj)
      have Jh216 := i1_fr fh216 (by decide) (by decide) (by decide) (by decide) hI
      show TT _ _ _ _ _ _ _ _ [.inl x218] _
      refine tw_if (tgt := 54) (pc := 49) dX7_inject_49 (by decide) (fun (c222 : x218.toInt ≠ 0) => ?_) (fun (c222 : ¬ (x218.toInt ≠ 0)) => ?_)
      · skip
        exfalso
        omega
      · skip
        refine tw_iconst (pc := 52) dX7_inject_52 (by decide) (fun x223 ex223 => ?_)
        refine tt_stop ?_
        rw [hQ]
        exact Or.inr (Or.inl ⟨x223, dX7_inject_53, rfl, Or.inl rfl, wh216, hfh216, Jh216, x219, x223, rfl, ⟨_, eh216, gh216⟩, (by first | exact Or.inl ⟨by omega, by omega, fh216⟩ | exact Or.inr (Or.inl ⟨⟨by omega, by omega, by omega, by omega⟩, by omega, fh216, (show a3.toInt < 0 ∨ 60 < a3.toInt from by omega).elim Or.inl (fun z => Or.inr (Or.inl z))⟩))⟩)
    · skip
      obtain ⟨b212, b213⟩ := Gx211 (by omega)
      refine tt_aload_n (pc := 32) dX7_inject_32 (.head _) ?_
      refine tw_geti (pc := 33) dX7_inject_33 flX7_218 hw ta0 (by decide) rfl (fun f224 x225 ef224 gf224 lx225 ux225 => ?_)
      refine tw_bipush (pc := 36) dX7_inject_36 (by decide) (fun x226 ex226 => ?_)
      refine tw_icmp (tgt := 45) (pc := 38) dX7_inject_38 (by decide) (fun (c227 : x226.toInt ≤ x225.toInt) => ?_) (fun (c227 : ¬ (x226.toInt ≤ x225.toInt)) => ?_)
      · skip
        refine tw_iconst (pc := 45) dX7_inject_45 (by decide) (fun x228 ex228 => ?_)
        refine tw_callV (kc := 0) (ks := 0) (mc := 0) (ms := 0) (as := [.inl x208, .inl x228]) (st := []) (pc := 46) hw ta0 (by decide) dX7_inject_46 lkX7_193 imX7_goes seX7_goes rfl rfl (by decide) (by decide) (Nat.le_of_ble_eq_true rfl) (g_X7_goesE hN2 hN8 hp0 hp64 hw a0 ta0 x208 (by omega) (by omega) x228 (by omega) (by omega)) (fun rv h229 qh229 => ?_)
        obtain ⟨wh229, fh229, x231, x232, rfl, ⟨fsh229, eh229, gh229⟩, ⟨lx231, ux231⟩, Ah229, Bh229, Ch229⟩ := qh229
        have hfh229 := hf.tr (fh229.weak weak_PMg_PMj)
        have Jh229 := i1_fr fh229 (by decide) (by decide) (by decide) (by decide) hI
        obtain ⟨f233, E234, G235⟩ := fr_fld fh229 ta0 (by decide) ef224 gf224
        show TT _ _ _ _ _ _ _ _ [.inl x231] _
        refine tw_if (tgt := 54) (pc := 49) dX7_inject_49 (by decide) (fun (c238 : x231.toInt ≠ 0) => ?_) (fun (c238 : ¬ (x231.toInt ≠ 0)) => ?_)
        · skip
          exfalso
          omega
        · skip
          refine tw_iconst (pc := 52) dX7_inject_52 (by decide) (fun x239 ex239 => ?_)
          refine tt_stop ?_
          rw [hQ]
          exact Or.inr (Or.inl ⟨x239, dX7_inject_53, rfl, Or.inl rfl, wh229, hfh229, Jh229, x232, x239, rfl, ⟨_, eh229, gh229⟩, (by first | exact Or.inl ⟨by omega, by omega, fh229⟩ | exact Or.inr (Or.inl ⟨⟨by omega, by omega, by omega, by omega⟩, by omega, fh229, (show a3.toInt < 0 ∨ 60 < a3.toInt from by omega).elim Or.inl (fun z => Or.inr (Or.inl z))⟩) | exact Or.inr (Or.inl ⟨⟨by omega, by omega, by omega, by omega⟩, by omega, fh229, Or.inr (Or.inr ⟨x225, ⟨_, ef224, gf224⟩, by omega⟩)⟩))⟩)
      · skip
        refine tw_iconst (pc := 41) dX7_inject_41 (by decide) (fun x240 ex240 => ?_)
        refine tt_goto (tgt := 46) (pc := 42) dX7_inject_42 (by decide) ?_
        refine tw_callV (kc := 0) (ks := 0) (mc := 0) (ms := 0) (as := [.inl x208, .inl x240]) (st := []) (pc := 46) hw ta0 (by decide) dX7_inject_46 lkX7_193 imX7_goes seX7_goes rfl rfl (by decide) (by decide) (Nat.le_of_ble_eq_true rfl) (g_X7_goesE hN2 hN8 hp0 hp64 hw a0 ta0 x208 (by omega) (by omega) x240 (by omega) (by omega)) (fun rv h241 qh241 => ?_)
        obtain ⟨wh241, fh241, x243, x244, rfl, ⟨fsh241, eh241, gh241⟩, ⟨lx243, ux243⟩, Ah241, Bh241, Ch241⟩ := qh241
        have hfh241 := hf.tr (fh241.weak weak_PMg_PMj)
        have Jh241 := i1_fr fh241 (by decide) (by decide) (by decide) (by decide) hI
        obtain ⟨f245, E246, G247⟩ := fr_fld fh241 ta0 (by decide) ef224 gf224
        show TT _ _ _ _ _ _ _ _ [.inl x243] _
        refine tw_if (tgt := 54) (pc := 49) dX7_inject_49 (by decide) (fun (c250 : x243.toInt ≠ 0) => ?_) (fun (c250 : ¬ (x243.toInt ≠ 0)) => ?_)
        · skip
          exfalso
          omega
        · skip
          refine tw_iconst (pc := 52) dX7_inject_52 (by decide) (fun x251 ex251 => ?_)
          refine tt_stop ?_
          rw [hQ]
          exact Or.inr (Or.inl ⟨x251, dX7_inject_53, rfl, Or.inl rfl, wh241, hfh241, Jh241, x244, x251, rfl, ⟨_, eh241, gh241⟩, (by first | exact Or.inl ⟨by omega, by omega, fh241⟩ | exact Or.inr (Or.inl ⟨⟨by omega, by omega, by omega, by omega⟩, by omega, fh241, (show a3.toInt < 0 ∨ 60 < a3.toInt from by omega).elim Or.inl (fun z => Or.inr (Or.inl z))⟩) | exact Or.inr (Or.inl ⟨⟨by omega, by omega, by omega, by omega⟩, by omega, fh241, Or.inr (Or.inr ⟨x225, ⟨_, ef224, gf224⟩, by omega⟩)⟩))⟩)
  · skip
    obtain ⟨b205, b206⟩ := Gx204 (by omega)
    refine tt_iload_n (pc := 9) dX7_inject_9 (.tail _ (.tail _ (.head _))) ?_
    refine tw_bipush (pc := 10) dX7_inject_10 (by decide) (fun x252 ex252 => ?_)
    refine tt_callS (kc := 0) (ks := 0) (mc := 0) (ms := 0) (as := [.inl a2, .inl x252]) (st := [.inr (some a0)]) (pc := 12) dX7_inject_12 lkX7_99 smX7_in rfl (by decide) (by decide) (Nat.le_of_ble_eq_true rfl) (g_X7_in hN2 hN8 hp0 hp64 hw a2 x252) (fun rv h253 qh253 => ?_)
    obtain ⟨rfl, x254, rfl, lx254, ux254, Gx254, Zx254⟩ := qh253
    show TT _ _ _ _ _ _ _ _ [.inl x254, .inr (some a0)] _
    refine tw_if (tgt := 22) (pc := 15) dX7_inject_15 (by decide) (fun (c257 : x254.toInt = 0) => ?_) (fun (c257 : ¬ (x254.toInt = 0)) => ?_)
    · skip
      refine tw_iconst (pc := 22) dX7_inject_22 (by decide) (fun x258 ex258 => ?_)
      refine tt_iload_n (pc := 23) dX7_inject_23 (.tail _ (.tail _ (.tail _ (.head _)))) ?_
      refine tw_bipush (pc := 24) dX7_inject_24 (by decide) (fun x259 ex259 => ?_)
      refine tt_callS (kc := 0) (ks := 0) (mc := 0) (ms := 0) (as := [.inl a3, .inl x259]) (st := [.inl x258, .inr (some a0)]) (pc := 26) dX7_inject_26 lkX7_99 smX7_in rfl (by decide) (by decide) (Nat.le_of_ble_eq_true rfl) (g_X7_in hN2 hN8 hp0 hp64 hw a3 x259) (fun rv h260 qh260 => ?_)
      obtain ⟨rfl, x261, rfl, lx261, ux261, Gx261, Zx261⟩ := qh260
      show TT _ _ _ _ _ _ _ _ [.inl x261, .inl x258, .inr (some a0)] _
      refine tw_if (tgt := 45) (pc := 29) dX7_inject_29 (by decide) (fun (c264 : x261.toInt = 0) => ?_) (fun (c264 : ¬ (x261.toInt = 0)) => ?_)
      · skip
        refine tw_iconst (pc := 45) dX7_inject_45 (by decide) (fun x265 ex265 => ?_)
        refine tw_callV (kc := 0) (ks := 0) (mc := 0) (ms := 0) (as := [.inl x258, .inl x265]) (st := []) (pc := 46) hw ta0 (by decide) dX7_inject_46 lkX7_193 imX7_goes seX7_goes rfl rfl (by decide) (by decide) (Nat.le_of_ble_eq_true rfl) (g_X7_goesE hN2 hN8 hp0 hp64 hw a0 ta0 x258 (by omega) (by omega) x265 (by omega) (by omega)) (fun rv h266 qh266 => ?_)
        obtain ⟨wh266, fh266, x268, x269, rfl, ⟨fsh266, eh266, gh266⟩, ⟨lx268, ux268⟩, Ah266, Bh266, Ch266⟩ := qh266
        have hfh266 := hf.tr (fh266.weak weak_PMg_PMj)
        have Jh266 := i1_fr fh266 (by decide) (by decide) (by decide) (by decide) hI
        show TT _ _ _ _ _ _ _ _ [.inl x268] _
        refine tw_if (tgt := 54) (pc := 49) dX7_inject_49 (by decide) (fun (c272 : x268.toInt ≠ 0) => ?_) (fun (c272 : ¬ (x268.toInt ≠ 0)) => ?_)
        · skip
          exfalso
          omega
        · skip
          refine tw_iconst (pc := 52) dX7_inject_52 (by decide) (fun x273 ex273 => ?_)
          refine tt_stop ?_
          rw [hQ]
          exact Or.inr (Or.inl ⟨x273, dX7_inject_53, rfl, Or.inl rfl, wh266, hfh266, Jh266, x269, x273, rfl, ⟨_, eh266, gh266⟩, (by first | exact Or.inl ⟨by omega, by omega, fh266⟩ | exact Or.inr (Or.inl ⟨⟨by omega, by omega, by omega, by omega⟩, by omega, fh266, (show a3.toInt < 0 ∨ 60 < a3.toInt from by omega).elim Or.inl (fun z => Or.inr (Or.inl z))⟩))⟩)
      · skip
        obtain ⟨b262, b263⟩ := Gx261 (by omega)
        refine tt_aload_n (pc := 32) dX7_inject_32 (.head _) ?_
        refine tw_geti (pc := 33) dX7_inject_33 flX7_218 hw ta0 (by decide) rfl (fun f274 x275 ef274 gf274 lx275 ux275 => ?_)
        refine tw_bipush (pc := 36) dX7_inject_36 (by decide) (fun x276 ex276 => ?_)
        refine tw_icmp (tgt := 45) (pc := 38) dX7_inject_38 (by decide) (fun (c277 : x276.toInt ≤ x275.toInt) => ?_) (fun (c277 : ¬ (x276.toInt ≤ x275.toInt)) => ?_)
        · skip
          refine tw_iconst (pc := 45) dX7_inject_45 (by decide) (fun x278 ex278 => ?_)
          refine tw_callV (kc := 0) (ks := 0) (mc := 0) (ms := 0) (as := [.inl x258, .inl x278]) (st := []) (pc := 46) hw ta0 (by decide) dX7_inject_46 lkX7_193 imX7_goes seX7_goes rfl rfl (by decide) (by decide) (Nat.le_of_ble_eq_true rfl) (g_X7_goesE hN2 hN8 hp0 hp64 hw a0 ta0 x258 (by omega) (by omega) x278 (by omega) (by omega)) (fun rv h279 qh279 => ?_)
          obtain ⟨wh279, fh279, x281, x282, rfl, ⟨fsh279, eh279, gh279⟩, ⟨lx281, ux281⟩, Ah279, Bh279, Ch279⟩ := qh279
          have hfh279 := hf.tr (fh279.weak weak_PMg_PMj)
          have Jh279 := i1_fr fh279 (by decide) (by decide) (by decide) (by decide) hI
          obtain ⟨f283, E284, G285⟩ := fr_fld fh279 ta0 (by decide) ef274 gf274
          show TT _ _ _ _ _ _ _ _ [.inl x281] _
          refine tw_if (tgt := 54) (pc := 49) dX7_inject_49 (by decide) (fun (c288 : x281.toInt ≠ 0) => ?_) (fun (c288 : ¬ (x281.toInt ≠ 0)) => ?_)
          · skip
            exfalso
            omega
          · skip
            refine tw_iconst (pc := 52) dX7_inject_52 (by decide) (fun x289 ex289 => ?_)
            refine tt_stop ?_
            rw [hQ]
            exact Or.inr (Or.inl ⟨x289, dX7_inject_53, rfl, Or.inl rfl, wh279, hfh279, Jh279, x282, x289, rfl, ⟨_, eh279, gh279⟩, (by first | exact Or.inl ⟨by omega, by omega, fh279⟩ | exact Or.inr (Or.inl ⟨⟨by omega, by omega, by omega, by omega⟩, by omega, fh279, (show a3.toInt < 0 ∨ 60 < a3.toInt from by omega).elim Or.inl (fun z => Or.inr (Or.inl z))⟩) | exact Or.inr (Or.inl ⟨⟨by omega, by omega, by omega, by omega⟩, by omega, fh279, Or.inr (Or.inr ⟨x275, ⟨_, ef274, gf274⟩, by omega⟩)⟩))⟩)
        · skip
          refine tw_iconst (pc := 41) dX7_inject_41 (by decide) (fun x290 ex290 => ?_)
          refine tt_goto (tgt := 46) (pc := 42) dX7_inject_42 (by decide) ?_
          refine tw_callV (kc := 0) (ks := 0) (mc := 0) (ms := 0) (as := [.inl x258, .inl x290]) (st := []) (pc := 46) hw ta0 (by decide) dX7_inject_46 lkX7_193 imX7_goes seX7_goes rfl rfl (by decide) (by decide) (Nat.le_of_ble_eq_true rfl) (g_X7_goesE hN2 hN8 hp0 hp64 hw a0 ta0 x258 (by omega) (by omega) x290 (by omega) (by omega)) (fun rv h291 qh291 => ?_)
          obtain ⟨wh291, fh291, x293, x294, rfl, ⟨fsh291, eh291, gh291⟩, ⟨lx293, ux293⟩, Ah291, Bh291, Ch291⟩ := qh291
          have hfh291 := hf.tr (fh291.weak weak_PMg_PMj)
          have Jh291 := i1_fr fh291 (by decide) (by decide) (by decide) (by decide) hI
          obtain ⟨f295, E296, G297⟩ := fr_fld fh291 ta0 (by decide) ef274 gf274
          show TT _ _ _ _ _ _ _ _ [.inl x293] _
          refine tw_if (tgt := 54) (pc := 49) dX7_inject_49 (by decide) (fun (c300 : x293.toInt ≠ 0) => ?_) (fun (c300 : ¬ (x293.toInt ≠ 0)) => ?_)
          · skip
            exfalso
            omega
          · skip
            refine tw_iconst (pc := 52) dX7_inject_52 (by decide) (fun x301 ex301 => ?_)
            refine tt_stop ?_
            rw [hQ]
            exact Or.inr (Or.inl ⟨x301, dX7_inject_53, rfl, Or.inl rfl, wh291, hfh291, Jh291, x294, x301, rfl, ⟨_, eh291, gh291⟩, (by first | exact Or.inl ⟨by omega, by omega, fh291⟩ | exact Or.inr (Or.inl ⟨⟨by omega, by omega, by omega, by omega⟩, by omega, fh291, (show a3.toInt < 0 ∨ 60 < a3.toInt from by omega).elim Or.inl (fun z => Or.inr (Or.inl z))⟩) | exact Or.inr (Or.inl ⟨⟨by omega, by omega, by omega, by omega⟩, by omega, fh291, Or.inr (Or.inr ⟨x275, ⟨_, ef274, gf274⟩, by omega⟩)⟩))⟩)
    · skip
      obtain ⟨b255, b256⟩ := Gx254 (by omega)
      refine tw_iconst (pc := 18) dX7_inject_18 (by decide) (fun x302 ex302 => ?_)
      refine tt_goto (tgt := 23) (pc := 19) dX7_inject_19 (by decide) ?_
      refine tt_iload_n (pc := 23) dX7_inject_23 (.tail _ (.tail _ (.tail _ (.head _)))) ?_
      refine tw_bipush (pc := 24) dX7_inject_24 (by decide) (fun x303 ex303 => ?_)
      refine tt_callS (kc := 0) (ks := 0) (mc := 0) (ms := 0) (as := [.inl a3, .inl x303]) (st := [.inl x302, .inr (some a0)]) (pc := 26) dX7_inject_26 lkX7_99 smX7_in rfl (by decide) (by decide) (Nat.le_of_ble_eq_true rfl) (g_X7_in hN2 hN8 hp0 hp64 hw a3 x303) (fun rv h304 qh304 => ?_)
      obtain ⟨rfl, x305, rfl, lx305, ux305, Gx305, Zx305⟩ := qh304
      show TT _ _ _ _ _ _ _ _ [.inl x305, .inl x302, .inr (some a0)] _
      refine tw_if (tgt := 45) (pc := 29) dX7_inject_29 (by decide) (fun (c308 : x305.toInt = 0) => ?_) (fun (c308 : ¬ (x305.toInt = 0)) => ?_)
      · skip
        refine tw_iconst (pc := 45) dX7_inject_45 (by decide) (fun x309 ex309 => ?_)
        refine tw_callV (kc := 0) (ks := 0) (mc := 0) (ms := 0) (as := [.inl x302, .inl x309]) (st := []) (pc := 46) hw ta0 (by decide) dX7_inject_46 lkX7_193 imX7_goes seX7_goes rfl rfl (by decide) (by decide) (Nat.le_of_ble_eq_true rfl) (g_X7_goesE hN2 hN8 hp0 hp64 hw a0 ta0 x302 (by omega) (by omega) x309 (by omega) (by omega)) (fun rv h310 qh310 => ?_)
        obtain ⟨wh310, fh310, x312, x313, rfl, ⟨fsh310, eh310, gh310⟩, ⟨lx312, ux312⟩, Ah310, Bh310, Ch310⟩ := qh310
        have hfh310 := hf.tr (fh310.weak weak_PMg_PMj)
        have Jh310 := i1_fr fh310 (by decide) (by decide) (by decide) (by decide) hI
        show TT _ _ _ _ _ _ _ _ [.inl x312] _
        refine tw_if (tgt := 54) (pc := 49) dX7_inject_49 (by decide) (fun (c316 : x312.toInt ≠ 0) => ?_) (fun (c316 : ¬ (x312.toInt ≠ 0)) => ?_)
        · skip
          exfalso
          omega
        · skip
          refine tw_iconst (pc := 52) dX7_inject_52 (by decide) (fun x317 ex317 => ?_)
          refine tt_stop ?_
          rw [hQ]
          exact Or.inr (Or.inl ⟨x317, dX7_inject_53, rfl, Or.inl rfl, wh310, hfh310, Jh310, x313, x317, rfl, ⟨_, eh310, gh310⟩, (by first | exact Or.inl ⟨by omega, by omega, fh310⟩ | exact Or.inr (Or.inl ⟨⟨by omega, by omega, by omega, by omega⟩, by omega, fh310, (show a3.toInt < 0 ∨ 60 < a3.toInt from by omega).elim Or.inl (fun z => Or.inr (Or.inl z))⟩))⟩)
      · skip
        obtain ⟨b306, b307⟩ := Gx305 (by omega)
        refine tt_aload_n (pc := 32) dX7_inject_32 (.head _) ?_
        refine tw_geti (pc := 33) dX7_inject_33 flX7_218 hw ta0 (by decide) rfl (fun f318 x319 ef318 gf318 lx319 ux319 => ?_)
        refine tw_bipush (pc := 36) dX7_inject_36 (by decide) (fun x320 ex320 => ?_)
        refine tw_icmp (tgt := 45) (pc := 38) dX7_inject_38 (by decide) (fun (c321 : x320.toInt ≤ x319.toInt) => ?_) (fun (c321 : ¬ (x320.toInt ≤ x319.toInt)) => ?_)
        · skip
          refine tw_iconst (pc := 45) dX7_inject_45 (by decide) (fun x322 ex322 => ?_)
          refine tw_callV (kc := 0) (ks := 0) (mc := 0) (ms := 0) (as := [.inl x302, .inl x322]) (st := []) (pc := 46) hw ta0 (by decide) dX7_inject_46 lkX7_193 imX7_goes seX7_goes rfl rfl (by decide) (by decide) (Nat.le_of_ble_eq_true rfl) (g_X7_goesE hN2 hN8 hp0 hp64 hw a0 ta0 x302 (by omega) (by omega) x322 (by omega) (by omega)) (fun rv h323 qh323 => ?_)
          obtain ⟨wh323, fh323, x325, x326, rfl, ⟨fsh323, eh323, gh323⟩, ⟨lx325, ux325⟩, Ah323, Bh323, Ch323⟩ := qh323
          have hfh323 := hf.tr (fh323.weak weak_PMg_PMj)
          have Jh323 := i1_fr fh323 (by decide) (by decide) (by decide) (by decide) hI
          obtain ⟨f327, E328, G329⟩ := fr_fld fh323 ta0 (by decide) ef318 gf318
          show TT _ _ _ _ _ _ _ _ [.inl x325] _
          refine tw_if (tgt := 54) (pc := 49) dX7_inject_49 (by decide) (fun (c332 : x325.toInt ≠ 0) => ?_) (fun (c332 : ¬ (x325.toInt ≠ 0)) => ?_)
          · skip
            exfalso
            omega
          · skip
            refine tw_iconst (pc := 52) dX7_inject_52 (by decide) (fun x333 ex333 => ?_)
            refine tt_stop ?_
            rw [hQ]
            exact Or.inr (Or.inl ⟨x333, dX7_inject_53, rfl, Or.inl rfl, wh323, hfh323, Jh323, x326, x333, rfl, ⟨_, eh323, gh323⟩, (by first | exact Or.inl ⟨by omega, by omega, fh323⟩ | exact Or.inr (Or.inl ⟨⟨by omega, by omega, by omega, by omega⟩, by omega, fh323, (show a3.toInt < 0 ∨ 60 < a3.toInt from by omega).elim Or.inl (fun z => Or.inr (Or.inl z))⟩) | exact Or.inr (Or.inl ⟨⟨by omega, by omega, by omega, by omega⟩, by omega, fh323, Or.inr (Or.inr ⟨x319, ⟨_, ef318, gf318⟩, by omega⟩)⟩))⟩)
        · skip
          refine tw_iconst (pc := 41) dX7_inject_41 (by decide) (fun x334 ex334 => ?_)
          refine tt_goto (tgt := 46) (pc := 42) dX7_inject_42 (by decide) ?_
          refine tw_callV (kc := 0) (ks := 0) (mc := 0) (ms := 0) (as := [.inl x302, .inl x334]) (st := []) (pc := 46) hw ta0 (by decide) dX7_inject_46 lkX7_193 imX7_goes seX7_goes rfl rfl (by decide) (by decide) (Nat.le_of_ble_eq_true rfl) (g_X7_goesE hN2 hN8 hp0 hp64 hw a0 ta0 x302 (by omega) (by omega) x334 (by omega) (by omega)) (fun rv h335 qh335 => ?_)
          obtain ⟨wh335, fh335, x337, x338, rfl, ⟨fsh335, eh335, gh335⟩, ⟨lx337, ux337⟩, Ah335, Bh335, Ch335⟩ := qh335
          have hfh335 := hf.tr (fh335.weak weak_PMg_PMj)
          have Jh335 := i1_fr fh335 (by decide) (by decide) (by decide) (by decide) hI
          obtain ⟨f339, E340, G341⟩ := fr_fld fh335 ta0 (by decide) ef318 gf318
          show TT _ _ _ _ _ _ _ _ [.inl x337] _
          refine tw_if (tgt := 54) (pc := 49) dX7_inject_49 (by decide) (fun (c344 : x337.toInt ≠ 0) => ?_) (fun (c344 : ¬ (x337.toInt ≠ 0)) => ?_)
          · skip
            obtain ⟨b342, b343⟩ := (fun zz => (show x302.toInt = 1 ∧ x334.toInt = 1 from by omega)) (by omega)
            refine tt_aload_n (pc := 54) dX7_inject_54 (.head _) ?_
            refine tt_get (pc := 55) dX7_inject_55 flX7_218 E340 G341 ?_
            refine tt_istore (pc := 58) dX7_inject_58 (by decide) ?_
            show TT _ _ _ _ _ _ _ [(4, .inl x319), (0, .inr (some a0)), (1, .inl a1), (2, .inl a2), (3, .inl a3)] _ _
            refine tt_aload_n (pc := 60) dX7_inject_60 (.tail _ (.head _)) ?_
            refine tt_dup (pc := 61) dX7_inject_61 ?_
            refine tt_get (pc := 62) dX7_inject_62 flX7_218 E340 G341 ?_
            refine tw_iconst (pc := 65) dX7_inject_65 (by decide) (fun x345 ex345 => ?_)
            refine tw_iadd (pc := 66) dX7_inject_66 (by omega) (fun x346 ex346 => ?_)
            refine tw_put (P := (PEF 7 24)) (pc := 67) dX7_inject_67 flX7_218 wh335 ta0 (by decide) rfl ⟨by omega, by omega⟩ rfl (by decide) (by decide) (fun f347 h348 eh348 gh348 kh348 wh348 fh348 => ?_)
            have hfh348 := hfh335.tr (fh348.weak (weak_PEF rfl))
            have Jh348 := i1_fr fh348 (by decide) (by decide) (by decide) (by decide) Jh335
            have G349 : (f347.set 24 (.inl x346 : tV))[0]? = some (.inl x338 : tV) := by
                rw [List.getElem?_set_ne (by decide)]
                have z9 := eh335.symm.trans eh348
                cases z9
                exact gh335
            have P9 : PKC h348 a0 x346 := ⟨_, gh348, List.getElem?_set_self kh348⟩
            have T9 : THR h348 a0 x338 := thr_fr fh348 ta0 rfl ⟨_, eh335, gh335⟩
            have F2h348 : Fr PK24 τ h348 h348 := Fr.rf
            refine tt_aload_n (pc := 70) dX7_inject_70 (.tail _ (.head _)) ?_
            refine tw_getr (pc := 71) dX7_inject_71 flX7_74 wh348 ta0 (by decide) rfl (fun f350 q351 ef350 gf350 tq351 => ?_)
            refine tt_iload (pc := 74) dX7_inject_74 (.head _) ?_
            refine tt_iload_n (pc := 76) dX7_inject_76 (.tail _ (.tail _ (.tail _ (.head _)))) ?_
            refine tw_ist (P := (PEX 55)) (pc := 77) dX7_inject_77 wh348 tq351 rfl (by omega) (by omega) (by omega) (by omega) (by decide) (fun f352 h353 eh353 gh353 kh353 wh353 fh353 => ?_)
            have hfh353 := hfh348.tr (fh353.weak (weak_PEX (fun _ => rfl)))
            have F2h353 := F2h348.tr (fh353.weak (only24 rfl rfl))
            have Jh353 := i1_fr fh353 (by decide) (by decide) (by decide) (by decide) Jh348
            obtain ⟨f354, E355, G356⟩ := fr_fld fh353 ta0 (by decide) gh348 (List.getElem?_set_self kh348)
            obtain ⟨f357, E358, G359⟩ := fr_fld fh353 ta0 (by decide) gh348 G349
            obtain ⟨f360, E361, G362⟩ := fr_fld fh353 ta0 (by decide) ef350 gf350
            refine tt_aload_n (pc := 78) dX7_inject_78 (.tail _ (.head _)) ?_
            refine tw_getr (pc := 79) dX7_inject_79 flX7_77 wh353 ta0 (by decide) rfl (fun f363 q364 ef363 gf363 tq364 => ?_)
            refine tt_iload (pc := 82) dX7_inject_82 (.head _) ?_
            refine tt_iload_n (pc := 84) dX7_inject_84 (.tail _ (.tail _ (.tail _ (.tail _ (.head _))))) ?_
            refine tw_ist (P := (PEX 56)) (pc := 85) dX7_inject_85 wh353 tq364 rfl (by omega) (by omega) (by omega) (by omega) (by decide) (fun f365 h366 eh366 gh366 kh366 wh366 fh366 => ?_)
            have hfh366 := hfh353.tr (fh366.weak (weak_PEX (fun _ => rfl)))
            have F2h366 := F2h353.tr (fh366.weak (only24 rfl rfl))
            have Jh366 := i1_fr fh366 (by decide) (by decide) (by decide) (by decide) Jh353
            obtain ⟨f367, E368, G369⟩ := fr_fld fh366 ta0 (by decide) E355 G356
            obtain ⟨f370, E371, G372⟩ := fr_fld fh366 ta0 (by decide) E358 G359
            obtain ⟨f373, E374, G375⟩ := fr_fld fh366 ta0 (by decide) E361 G362
            have E376 := fr_arrI fh366 tq351 (by decide) gh353
            obtain ⟨f377, E378, G379⟩ := fr_fld fh366 ta0 (by decide) ef363 gf363
            refine tt_aload_n (pc := 86) dX7_inject_86 (.tail _ (.head _)) ?_
            refine tw_getr (pc := 87) dX7_inject_87 flX7_86 wh366 ta0 (by decide) rfl (fun f380 q381 ef380 gf380 tq381 => ?_)
            refine tt_iload (pc := 90) dX7_inject_90 (.head _) ?_
            refine tw_iconst (pc := 92) dX7_inject_92 (by decide) (fun x382 ex382 => ?_)
            refine tw_ist (P := (PEX 59)) (pc := 93) dX7_inject_93 wh366 tq381 rfl (by omega) (by omega) (by omega) (by omega) (by decide) (fun f383 h384 eh384 gh384 kh384 wh384 fh384 => ?_)
            have hfh384 := hfh366.tr (fh384.weak (weak_PEX (fun _ => rfl)))
            have F2h384 := F2h366.tr (fh384.weak (only24 rfl rfl))
            have Jh384 := i1_fr fh384 (by decide) (by decide) (by decide) (by decide) Jh366
            obtain ⟨f385, E386, G387⟩ := fr_fld fh384 ta0 (by decide) E368 G369
            obtain ⟨f388, E389, G390⟩ := fr_fld fh384 ta0 (by decide) E371 G372
            obtain ⟨f391, E392, G393⟩ := fr_fld fh384 ta0 (by decide) E374 G375
            have E394 := fr_arrI fh384 tq351 (by decide) E376
            obtain ⟨f395, E396, G397⟩ := fr_fld fh384 ta0 (by decide) E378 G379
            have E398 := fr_arrI fh384 tq364 (by decide) gh366
            obtain ⟨f399, E400, G401⟩ := fr_fld fh384 ta0 (by decide) ef380 gf380
            refine tt_aload_n (pc := 94) dX7_inject_94 (.tail _ (.head _)) ?_
            refine tt_iload (pc := 95) dX7_inject_95 (.head _) ?_
            refine tt_iload_n (pc := 97) dX7_inject_97 (.tail _ (.tail _ (.head _))) ?_
            refine tw_iconst (pc := 98) dX7_inject_98 (by decide) (fun x402 ex402 => ?_)
            refine tw_callV (kc := 0) (ks := 0) (mc := 0) (ms := 0) (as := [.inl x319, .inl a1, .inl x402]) (st := []) (pc := 99) wh384 ta0 (by decide) dX7_inject_99 lkX7_186 imX7_go seX7_go rfl rfl (by decide) (by decide) (Nat.le_of_ble_eq_true rfl) (g_X7_go hN2 hN8 hp0 hp64 wh384 a0 ta0 x319 (by omega) (by omega) a1 (by omega) (by omega) x402 (by omega) (by omega) Jh384) (fun rv h403 qh403 => ?_)
            obtain ⟨wh403, fh403, rfl⟩ := qh403
            have hfh403 := hfh384.tr (fh403.weak weak_PMk_PMj)
            have F2h403 := F2h384.tr (fh403.weak (only24 rfl rfl))
            have Jh403 := i1_fr fh403 (by decide) (by decide) (by decide) (by decide) Jh384
            show TT _ _ _ _ _ _ _ _ [] _
            refine tt_iload (pc := 102) dX7_inject_102 (.head _) ?_
            refine tt_stop ?_
            rw [hQ]
            exact Or.inr (Or.inl ⟨x319, dX7_inject_104, rfl, Or.inl rfl, wh403, hfh403, Jh403, x338, x319, rfl, thr_fr F2h403 ta0 rfl T9, Or.inr (Or.inr ⟨⟨by omega, by omega, by omega, by omega⟩, by omega, by omega, by omega, x319, x346, ⟨_, ef318, gf318⟩, by omega, pkc_fr F2h403 ta0 rfl P9, by omega, by omega⟩)⟩)
          · skip
            refine tw_iconst (pc := 52) dX7_inject_52 (by decide) (fun x404 ex404 => ?_)
            refine tt_stop ?_
            rw [hQ]
            exact Or.inr (Or.inl ⟨x404, dX7_inject_53, rfl, Or.inl rfl, wh335, hfh335, Jh335, x338, x404, rfl, ⟨_, eh335, gh335⟩, (by first | exact Or.inl ⟨by omega, by omega, fh335⟩ | exact Or.inr (Or.inl ⟨⟨by omega, by omega, by omega, by omega⟩, by omega, fh335, (show a3.toInt < 0 ∨ 60 < a3.toInt from by omega).elim Or.inl (fun z => Or.inr (Or.inl z))⟩) | exact Or.inr (Or.inl ⟨⟨by omega, by omega, by omega, by omega⟩, by omega, fh335, Or.inr (Or.inr ⟨x319, ⟨_, ef318, gf318⟩, by omega⟩)⟩))⟩)
set_option maxHeartbeats 4000000 in
theorem g_X7_turnE {l : Launch} {D : va_G} {N : Nat} {pk : Int} {τ : List Nat} (hN2 : 2 ≤ N) (hN8 : N ≤ 8) (hp0 : 0 ≤ pk) (hp64 : pk ≤ 64) {h : List tC} (hw : WT N pk τ h) (a0 : Nat) (ta0 : τ[a0]? = some 7) (a1 : Int32) (a2 : Int32) (la2 : 0 ≤ a2.toInt) (ua2 : a2.toInt ≤ 1) (hI : I1 τ h) (hI2 : I2 τ h) : TMc l D yX7_turn cX7_turn 6 none 6 153 0 0 [.inr (some a0), .inl a1, .inl a2] h (fun rv h' => WT N pk τ h' ∧ Fr PMt τ h h' ∧ I1 τ h' ∧ I2 τ h' ∧ rv = none ∧ ∃ t : Int32, THR h' a0 t ∧ ((¬ (0 ≤ a1.toInt ∧ a1.toInt ≤ 11) ∧ t.toInt = 1 ∧ Fr PMg τ h h') ∨ ((0 ≤ a1.toInt ∧ a1.toInt ≤ 11) ∧ t.toInt = 2 ∧ Fr PMg τ h h' ∧ ((∃ v : Int32, ARV τ h 32 a1.toNatClampNeg v ∧ v.toInt = 0) ∨ ∃ v : Int32, ARV τ h 33 a1.toNatClampNeg v ∧ v.toInt = a2.toInt)) ∨ ((0 ≤ a1.toInt ∧ a1.toInt ≤ 11) ∧ t.toInt = 0 ∧ (∃ v : Int32, ARV τ h 32 a1.toNatClampNeg v ∧ v.toInt ≠ 0) ∧ ∃ (k : Nat) (xs : List Int32) (v : Int32), τ[k]? = some 33 ∧ h[k]? = some (.inl (1, xs)) ∧ xs[a1.toNatClampNeg]? = some v ∧ v.toInt ≠ a2.toInt ∧ h'[k]? = some (.inl (1, xs.set a1.toNatClampNeg a2))))) := by
  refine tmc_of false rfl (by decide) (Nat.le_of_ble_eq_true rfl) ?_
  suffices HQ : ∀ Q0, Q0 = tRt cX7_turn none (fun rv h' => WT N pk τ h' ∧ Fr PMt τ h h' ∧ I1 τ h' ∧ I2 τ h' ∧ rv = none ∧ ∃ t : Int32, THR h' a0 t ∧ ((¬ (0 ≤ a1.toInt ∧ a1.toInt ≤ 11) ∧ t.toInt = 1 ∧ Fr PMg τ h h') ∨ ((0 ≤ a1.toInt ∧ a1.toInt ≤ 11) ∧ t.toInt = 2 ∧ Fr PMg τ h h' ∧ ((∃ v : Int32, ARV τ h 32 a1.toNatClampNeg v ∧ v.toInt = 0) ∨ ∃ v : Int32, ARV τ h 33 a1.toNatClampNeg v ∧ v.toInt = a2.toInt)) ∨ ((0 ≤ a1.toInt ∧ a1.toInt ≤ 11) ∧ t.toInt = 0 ∧ (∃ v : Int32, ARV τ h 32 a1.toNatClampNeg v ∧ v.toInt ≠ 0) ∧ ∃ (k : Nat) (xs : List Int32) (v : Int32), τ[k]? = some 33 ∧ h[k]? = some (.inl (1, xs)) ∧ xs[a1.toNatClampNeg]? = some v ∧ v.toInt ≠ a2.toInt ∧ h'[k]? = some (.inl (1, xs.set a1.toNatClampNeg a2))))) → TT l D mX7_turn Q0 0 0 0 [(0, .inr (some a0)), (1, .inl a1), (2, .inl a2)] [] h from HQ _ rfl
  intro Q0 hQ
  have hf : Fr PMt τ h h := Fr.rf
  have ba1 := i_ty a1
  refine tt_iload_n (pc := 0) dX7_turn_0 (.tail _ (.head _)) ?_
  refine tw_bipush (pc := 1) dX7_turn_1 (by decide) (fun x116 ex116 => ?_)
  refine tt_callS (kc := 0) (ks := 0) (mc := 0) (ms := 0) (as := [.inl a1, .inl x116]) (st := []) (pc := 3) dX7_turn_3 lkX7_99 smX7_in rfl (by decide) (by decide) (Nat.le_of_ble_eq_true rfl) (g_X7_in hN2 hN8 hp0 hp64 hw a1 x116) (fun rv h117 qh117 => ?_)
  obtain ⟨rfl, x118, rfl, lx118, ux118, Gx118, Zx118⟩ := qh117
  show TT _ _ _ _ _ _ _ _ [.inl x118] _
  refine tt_istore_n (pc := 6) dX7_turn_6 (by decide) ?_
  show TT _ _ _ _ _ _ _ [(3, .inl x118), (0, .inr (some a0)), (1, .inl a1), (2, .inl a2)] _ _
  refine tt_aload_n (pc := 7) dX7_turn_7 (.tail _ (.head _)) ?_
  refine tt_iload_n (pc := 8) dX7_turn_8 (.head _) ?_
  refine tt_iload_n (pc := 9) dX7_turn_9 (.head _) ?_
  refine tw_if (tgt := 36) (pc := 10) dX7_turn_10 (by decide) (fun (c121 : x118.toInt = 0) => ?_) (fun (c121 : ¬ (x118.toInt = 0)) => ?_)
  · skip
    refine tw_iconst (pc := 36) dX7_turn_36 (by decide) (fun x122 ex122 => ?_)
    refine tw_callV (kc := 0) (ks := 0) (mc := 0) (ms := 0) (as := [.inl x118, .inl x122]) (st := []) (pc := 37) hw ta0 (by decide) dX7_turn_37 lkX7_193 imX7_goes seX7_goes rfl rfl (by decide) (by decide) (Nat.le_of_ble_eq_true rfl) (g_X7_goesE hN2 hN8 hp0 hp64 hw a0 ta0 x118 (by omega) (by omega) x122 (by omega) (by omega)) (fun rv h123 qh123 => ?_)
    obtain ⟨wh123, fh123, x125, x126, rfl, ⟨fsh123, eh123, gh123⟩, ⟨lx125, ux125⟩, Ah123, Bh123, Ch123⟩ := qh123
    have hfh123 := hf.tr (fh123.weak weak_PMg_PMt)
    have Jh123 := i1_fr fh123 (by decide) (by decide) (by decide) (by decide) hI
    have Kh123 := i2_fr fh123 (by decide) (by decide) hI2
    show TT _ _ _ _ _ _ _ _ [.inl x125] _
    refine tw_if (tgt := 44) (pc := 40) dX7_turn_40 (by decide) (fun (c129 : x125.toInt ≠ 0) => ?_) (fun (c129 : ¬ (x125.toInt ≠ 0)) => ?_)
    · skip
      exfalso
      omega
    · skip
      refine tt_stop ?_
      rw [hQ]
      exact Or.inl ⟨dX7_turn_43, rfl, rfl, wh123, hfh123, Jh123, Kh123, rfl, x126, ⟨_, eh123, gh123⟩, (by first | exact Or.inl ⟨by omega, by omega, fh123⟩)⟩
  · skip
    obtain ⟨b119, b120⟩ := Gx118 (by omega)
    refine tt_aload_n (pc := 13) dX7_turn_13 (.tail _ (.head _)) ?_
    refine tw_getr (pc := 14) dX7_turn_14 flX7_7 hw ta0 (by decide) rfl (fun f130 q131 ef130 gf130 tq131 => ?_)
    refine tt_iload_n (pc := 17) dX7_turn_17 (.tail _ (.tail _ (.head _))) ?_
    refine tw_zld (pc := 18) dX7_turn_18 hw tq131 rfl (by omega) (by omega) (fun f133 x132 ef133 gf133 lx132 ux132 => ?_)
    refine tw_if (tgt := 36) (pc := 19) dX7_turn_19 (by decide) (fun (c134 : x132.toInt = 0) => ?_) (fun (c134 : ¬ (x132.toInt = 0)) => ?_)
    · skip
      refine tw_iconst (pc := 36) dX7_turn_36 (by decide) (fun x135 ex135 => ?_)
      refine tw_callV (kc := 0) (ks := 0) (mc := 0) (ms := 0) (as := [.inl x118, .inl x135]) (st := []) (pc := 37) hw ta0 (by decide) dX7_turn_37 lkX7_193 imX7_goes seX7_goes rfl rfl (by decide) (by decide) (Nat.le_of_ble_eq_true rfl) (g_X7_goesE hN2 hN8 hp0 hp64 hw a0 ta0 x118 (by omega) (by omega) x135 (by omega) (by omega)) (fun rv h136 qh136 => ?_)
      obtain ⟨wh136, fh136, x138, x139, rfl, ⟨fsh136, eh136, gh136⟩, ⟨lx138, ux138⟩, Ah136, Bh136, Ch136⟩ := qh136
      have hfh136 := hf.tr (fh136.weak weak_PMg_PMt)
      have Jh136 := i1_fr fh136 (by decide) (by decide) (by decide) (by decide) hI
      have Kh136 := i2_fr fh136 (by decide) (by decide) hI2
      obtain ⟨f140, E141, G142⟩ := fr_fld fh136 ta0 (by decide) ef130 gf130
      show TT _ _ _ _ _ _ _ _ [.inl x138] _
      refine tw_if (tgt := 44) (pc := 40) dX7_turn_40 (by decide) (fun (c145 : x138.toInt ≠ 0) => ?_) (fun (c145 : ¬ (x138.toInt ≠ 0)) => ?_)
      · skip
        exfalso
        omega
      · skip
        refine tt_stop ?_
        rw [hQ]
        exact Or.inl ⟨dX7_turn_43, rfl, rfl, wh136, hfh136, Jh136, Kh136, rfl, x139, ⟨_, eh136, gh136⟩, (by first | exact Or.inl ⟨by omega, by omega, fh136⟩ | exact Or.inr (Or.inl ⟨⟨by omega, by omega⟩, by omega, fh136, Or.inl ⟨x132, ⟨q131, _, _, tq131, ef133, gf133⟩, by omega⟩⟩))⟩
    · skip
      refine tt_aload_n (pc := 22) dX7_turn_22 (.tail _ (.head _)) ?_
      refine tw_getr (pc := 23) dX7_turn_23 flX7_13 hw ta0 (by decide) rfl (fun f146 q147 ef146 gf146 tq147 => ?_)
      refine tt_iload_n (pc := 26) dX7_turn_26 (.tail _ (.tail _ (.head _))) ?_
      refine tw_zld (pc := 27) dX7_turn_27 hw tq147 rfl (by omega) (by omega) (fun f149 x148 ef149 gf149 lx148 ux148 => ?_)
      refine tt_iload_n (pc := 28) dX7_turn_28 (.tail _ (.tail _ (.tail _ (.head _)))) ?_
      refine tw_icmp (tgt := 36) (pc := 29) dX7_turn_29 (by decide) (fun (c150 : x148.toInt = a2.toInt) => ?_) (fun (c150 : ¬ (x148.toInt = a2.toInt)) => ?_)
      · skip
        refine tw_iconst (pc := 36) dX7_turn_36 (by decide) (fun x151 ex151 => ?_)
        refine tw_callV (kc := 0) (ks := 0) (mc := 0) (ms := 0) (as := [.inl x118, .inl x151]) (st := []) (pc := 37) hw ta0 (by decide) dX7_turn_37 lkX7_193 imX7_goes seX7_goes rfl rfl (by decide) (by decide) (Nat.le_of_ble_eq_true rfl) (g_X7_goesE hN2 hN8 hp0 hp64 hw a0 ta0 x118 (by omega) (by omega) x151 (by omega) (by omega)) (fun rv h152 qh152 => ?_)
        obtain ⟨wh152, fh152, x154, x155, rfl, ⟨fsh152, eh152, gh152⟩, ⟨lx154, ux154⟩, Ah152, Bh152, Ch152⟩ := qh152
        have hfh152 := hf.tr (fh152.weak weak_PMg_PMt)
        have Jh152 := i1_fr fh152 (by decide) (by decide) (by decide) (by decide) hI
        have Kh152 := i2_fr fh152 (by decide) (by decide) hI2
        obtain ⟨f156, E157, G158⟩ := fr_fld fh152 ta0 (by decide) ef130 gf130
        obtain ⟨f159, E160, G161⟩ := fr_fld fh152 ta0 (by decide) ef146 gf146
        show TT _ _ _ _ _ _ _ _ [.inl x154] _
        refine tw_if (tgt := 44) (pc := 40) dX7_turn_40 (by decide) (fun (c164 : x154.toInt ≠ 0) => ?_) (fun (c164 : ¬ (x154.toInt ≠ 0)) => ?_)
        · skip
          exfalso
          omega
        · skip
          refine tt_stop ?_
          rw [hQ]
          exact Or.inl ⟨dX7_turn_43, rfl, rfl, wh152, hfh152, Jh152, Kh152, rfl, x155, ⟨_, eh152, gh152⟩, (by first | exact Or.inl ⟨by omega, by omega, fh152⟩ | exact Or.inr (Or.inl ⟨⟨by omega, by omega⟩, by omega, fh152, Or.inl ⟨x132, ⟨q131, _, _, tq131, ef133, gf133⟩, by omega⟩⟩) | exact Or.inr (Or.inl ⟨⟨by omega, by omega⟩, by omega, fh152, Or.inr ⟨x148, ⟨q147, _, _, tq147, ef149, gf149⟩, by omega⟩⟩))⟩
      · skip
        refine tw_iconst (pc := 32) dX7_turn_32 (by decide) (fun x165 ex165 => ?_)
        refine tt_goto (tgt := 37) (pc := 33) dX7_turn_33 (by decide) ?_
        refine tw_callV (kc := 0) (ks := 0) (mc := 0) (ms := 0) (as := [.inl x118, .inl x165]) (st := []) (pc := 37) hw ta0 (by decide) dX7_turn_37 lkX7_193 imX7_goes seX7_goes rfl rfl (by decide) (by decide) (Nat.le_of_ble_eq_true rfl) (g_X7_goesE hN2 hN8 hp0 hp64 hw a0 ta0 x118 (by omega) (by omega) x165 (by omega) (by omega)) (fun rv h166 qh166 => ?_)
        obtain ⟨wh166, fh166, x168, x169, rfl, ⟨fsh166, eh166, gh166⟩, ⟨lx168, ux168⟩, Ah166, Bh166, Ch166⟩ := qh166
        have hfh166 := hf.tr (fh166.weak weak_PMg_PMt)
        have Jh166 := i1_fr fh166 (by decide) (by decide) (by decide) (by decide) hI
        have Kh166 := i2_fr fh166 (by decide) (by decide) hI2
        obtain ⟨f170, E171, G172⟩ := fr_fld fh166 ta0 (by decide) ef130 gf130
        obtain ⟨f173, E174, G175⟩ := fr_fld fh166 ta0 (by decide) ef146 gf146
        show TT _ _ _ _ _ _ _ _ [.inl x168] _
        refine tw_if (tgt := 44) (pc := 40) dX7_turn_40 (by decide) (fun (c178 : x168.toInt ≠ 0) => ?_) (fun (c178 : ¬ (x168.toInt ≠ 0)) => ?_)
        · skip
          obtain ⟨b176, b177⟩ := (fun zz => (show x118.toInt = 1 ∧ x165.toInt = 1 from by omega)) (by omega)
          refine tt_aload_n (pc := 44) dX7_turn_44 (.tail _ (.head _)) ?_
          refine tw_getr (pc := 45) dX7_turn_45 flX7_16 wh166 ta0 (by decide) rfl (fun f179 q180 ef179 gf179 tq180 => ?_)
          refine tt_iload_n (pc := 48) dX7_turn_48 (.tail _ (.tail _ (.head _))) ?_
          refine tw_ild (pc := 49) dX7_turn_49 wh166 tq180 rfl (by omega) (by omega) (fun f182 x181 ef182 gf182 lx181 ux181 => ?_)
          refine tt_istore (pc := 50) dX7_turn_50 (by decide) ?_
          show TT _ _ _ _ _ _ _ [(4, .inl x181), (3, .inl x118), (0, .inr (some a0)), (1, .inl a1), (2, .inl a2)] _ _
          refine tt_aload_n (pc := 52) dX7_turn_52 (.tail _ (.tail _ (.head _))) ?_
          refine tw_getr (pc := 53) dX7_turn_53 flX7_20 wh166 ta0 (by decide) rfl (fun f183 q184 ef183 gf183 tq184 => ?_)
          refine tt_iload_n (pc := 56) dX7_turn_56 (.tail _ (.tail _ (.tail _ (.head _)))) ?_
          refine tw_ild (pc := 57) dX7_turn_57 wh166 tq184 rfl (by omega) (by omega) (fun f186 x185 ef186 gf186 lx185 ux185 => ?_)
          refine tt_istore (pc := 58) dX7_turn_58 (by decide) ?_
          show TT _ _ _ _ _ _ _ [(5, .inl x185), (4, .inl x181), (3, .inl x118), (0, .inr (some a0)), (1, .inl a1), (2, .inl a2)] _ _
          refine tt_aload_n (pc := 60) dX7_turn_60 (.tail _ (.tail _ (.tail _ (.head _)))) ?_
          refine tt_get (pc := 61) dX7_turn_61 flX7_13 E174 G175 ?_
          refine tt_iload_n (pc := 64) dX7_turn_64 (.tail _ (.tail _ (.tail _ (.tail _ (.head _))))) ?_
          refine tt_iload_n (pc := 65) dX7_turn_65 (.tail _ (.tail _ (.tail _ (.tail _ (.tail _ (.head _)))))) ?_
          refine tw_zst (P := (PEX 33)) (pc := 66) dX7_turn_66 wh166 tq147 rfl (by omega) (by omega) (by omega) (by omega) (by decide) (fun f187 h188 eh188 gh188 kh188 wh188 fh188 => ?_)
          have hfh188 := hfh166.tr (fh188.weak (weak_PEX (fun _ => rfl)))
          obtain ⟨f189, E190, G191⟩ := fr_fld fh188 ta0 (by decide) E171 G172
          obtain ⟨f192, E193, G194⟩ := fr_fld fh188 ta0 (by decide) E174 G175
          obtain ⟨f195, E196, G197⟩ := fr_fld fh188 ta0 (by decide) eh166 gh166
          obtain ⟨f198, E199, G200⟩ := fr_fld fh188 ta0 (by decide) ef179 gf179
          have E201 := fr_arrI fh188 tq180 (by decide) ef182
          obtain ⟨f202, E203, G204⟩ := fr_fld fh188 ta0 (by decide) ef183 gf183
          have E205 := fr_arrI fh188 tq184 (by decide) ef186
          have Xh188 := i1x_up hw.2.2.2 fh188 tq147 eh188 gh188 (lo0 := x181) (hi0 := x185) ⟨q180, _, _, tq180, ef182, gf182⟩ ⟨q184, _, _, tq184, ef186, gf186⟩ Jh166 (a := x181.toInt.toNat) (b := x185.toInt.toNat) (by omega) (by omega)
          have Kh188 := i2_up hw.2.2.2 fh188 tq147 eh188 gh188 (ARV.fr fh166 (by decide) ⟨q131, _, _, tq131, ef133, gf133⟩) (by omega) Kh166
          have ek9 : q147 = q147 := wh188.2.2.2 _ _ 33 (by decide) tq147 tq147
          have G9 : h188[q147]? = some (.inl (1, f149.set a1.toNatClampNeg a2)) := by
            have z0 := gh188
            have z1 := fr_arrB fh166 tq147 (by decide) eh188
            rw [ek9] at z0 z1
            rw [ef149] at z1
            cases z1
            exact z0
          have T9 : THR h188 a0 x169 := thr_fr fh188 ta0 rfl ⟨_, eh166, gh166⟩
          have F2h188 : Fr PK33 τ h188 h188 := Fr.rf
          refine tt_iload_n (pc := 67) dX7_turn_67 (.tail _ (.tail _ (.tail _ (.tail _ (.tail _ (.head _)))))) ?_
          refine tw_if (tgt := 87) (pc := 68) dX7_turn_68 (by decide) (fun (c206 : a2.toInt ≠ 0) => ?_) (fun (c206 : ¬ (a2.toInt ≠ 0)) => ?_)
          · skip
            refine tt_aload_n (pc := 87) dX7_turn_87 (.tail _ (.tail _ (.tail _ (.head _)))) ?_
            refine tt_iload (pc := 88) dX7_turn_88 (.tail _ (.head _)) ?_
            refine tw_callV (kc := 0) (ks := 0) (mc := 0) (ms := 0) (as := [.inl x181]) (st := []) (pc := 90) wh188 ta0 (by decide) dX7_turn_90 lkX7_200 imX7_tell seX7_tell rfl rfl (by decide) (by decide) (Nat.le_of_ble_eq_true rfl) (g_X7_tellE hN2 hN8 hp0 hp64 wh188 a0 ta0 x181 (by omega) (by omega)) (fun rv h207 qh207 => ?_)
            obtain ⟨wh207, fh207, rfl, ownh207, rrh207⟩ := qh207
            have hfh207 := hfh188.tr (fh207.weak weak_PM_PMt)
            have F2h207 := F2h188.tr (fh207.weak (only33 (fun _ => rfl) rfl))
            have Xh207 : I1x τ h207 x181.toInt.toNat x185.toInt.toNat := fun r9 h9 na nb => rrh207 r9 na (Xh188 r9 h9 na nb)
            have Kh207 := i2_fr fh207 (by decide) (by decide) Kh188
            show TT _ _ _ _ _ _ _ _ [] _
            refine tt_aload_n (pc := 93) dX7_turn_93 (.tail _ (.tail _ (.tail _ (.head _)))) ?_
            refine tt_iload (pc := 94) dX7_turn_94 (.head _) ?_
            refine tw_callV (kc := 0) (ks := 0) (mc := 0) (ms := 0) (as := [.inl x185]) (st := []) (pc := 96) wh207 ta0 (by decide) dX7_turn_96 lkX7_200 imX7_tell seX7_tell rfl rfl (by decide) (by decide) (Nat.le_of_ble_eq_true rfl) (g_X7_tellE hN2 hN8 hp0 hp64 wh207 a0 ta0 x185 (by omega) (by omega)) (fun rv h208 qh208 => ?_)
            obtain ⟨wh208, fh208, rfl, ownh208, rrh208⟩ := qh208
            have hfh208 := hfh207.tr (fh208.weak weak_PM_PMt)
            have F2h208 := F2h207.tr (fh208.weak (only33 (fun _ => rfl) rfl))
            have Jh208 : I1 τ h208 := i1_iff.mpr (fun r9 h9 => by
              by_cases e1 : r9 = x185.toInt.toNat
              · rw [e1]; exact ownh208
              · by_cases e2 : r9 = x181.toInt.toNat
                · rw [e2]; exact rrh208 _ (by rw [← e2]; exact e1) ownh207
                · exact rrh208 r9 e1 (Xh207 r9 h9 e2 e1))
            have Kh208 := i2_fr fh208 (by decide) (by decide) Kh207
            show TT _ _ _ _ _ _ _ _ [] _
            refine tt_iload_n (pc := 99) dX7_turn_99 (.tail _ (.tail _ (.tail _ (.tail _ (.tail _ (.head _)))))) ?_
            refine tw_if (tgt := 134) (pc := 100) dX7_turn_100 (by decide) (fun (c209 : a2.toInt = 0) => ?_) (fun (c209 : ¬ (a2.toInt = 0)) => ?_)
            · skip
              exfalso
              omega
            · skip
              refine tt_aload_n (pc := 103) dX7_turn_103 (.tail _ (.tail _ (.tail _ (.head _)))) ?_
              refine tt_iload (pc := 104) dX7_turn_104 (.tail _ (.head _)) ?_
              refine tt_iload_n (pc := 106) dX7_turn_106 (.tail _ (.tail _ (.tail _ (.tail _ (.head _))))) ?_
              refine tw_callV (kc := 0) (ks := 0) (mc := 0) (ms := 0) (as := [.inl x181, .inl a1]) (st := []) (pc := 107) wh208 ta0 (by decide) dX7_turn_107 lkX7_203 imX7_showNotes seX7_showNotes rfl rfl (by decide) (by decide) (Nat.le_of_ble_eq_true rfl) (g_X7_showNotes hN2 hN8 hp0 hp64 wh208 a0 ta0 x181 (by omega) (by omega) a1 (by omega) (by omega)) (fun rv h210 qh210 => ?_)
              obtain ⟨wh210, fh210, rfl⟩ := qh210
              have hfh210 := hfh208.tr (fh210.weak weak_PMk_PMt)
              have F2h210 := F2h208.tr (fh210.weak (only33 (fun _ => rfl) rfl))
              have Jh210 := i1_fr fh210 (by decide) (by decide) (by decide) (by decide) Jh208
              have Kh210 := i2_fr fh210 (by decide) (by decide) Kh208
              show TT _ _ _ _ _ _ _ _ [] _
              refine tt_aload_n (pc := 110) dX7_turn_110 (.tail _ (.tail _ (.tail _ (.head _)))) ?_
              refine tt_iload (pc := 111) dX7_turn_111 (.head _) ?_
              refine tt_iload_n (pc := 113) dX7_turn_113 (.tail _ (.tail _ (.tail _ (.tail _ (.head _))))) ?_
              refine tw_callV (kc := 0) (ks := 0) (mc := 0) (ms := 0) (as := [.inl x185, .inl a1]) (st := []) (pc := 114) wh210 ta0 (by decide) dX7_turn_114 lkX7_203 imX7_showNotes seX7_showNotes rfl rfl (by decide) (by decide) (Nat.le_of_ble_eq_true rfl) (g_X7_showNotes hN2 hN8 hp0 hp64 wh210 a0 ta0 x185 (by omega) (by omega) a1 (by omega) (by omega)) (fun rv h211 qh211 => ?_)
              obtain ⟨wh211, fh211, rfl⟩ := qh211
              have hfh211 := hfh210.tr (fh211.weak weak_PMk_PMt)
              have F2h211 := F2h210.tr (fh211.weak (only33 (fun _ => rfl) rfl))
              have Jh211 := i1_fr fh211 (by decide) (by decide) (by decide) (by decide) Jh210
              have Kh211 := i2_fr fh211 (by decide) (by decide) Kh210
              show TT _ _ _ _ _ _ _ _ [] _
              refine tt_aload_n (pc := 117) dX7_turn_117 (.tail _ (.tail _ (.tail _ (.head _)))) ?_
              refine tt_iload (pc := 118) dX7_turn_118 (.tail _ (.head _)) ?_
              refine tt_iload_n (pc := 120) dX7_turn_120 (.tail _ (.tail _ (.tail _ (.tail _ (.head _))))) ?_
              refine tw_callV (kc := 0) (ks := 0) (mc := 0) (ms := 0) (as := [.inl x181, .inl a1]) (st := []) (pc := 121) wh211 ta0 (by decide) dX7_turn_121 lkX7_206 imX7_showMappings seX7_showMappings rfl rfl (by decide) (by decide) (Nat.le_of_ble_eq_true rfl) (g_X7_showMappings hN2 hN8 hp0 hp64 wh211 a0 ta0 x181 (by omega) (by omega) a1 (by omega) (by omega)) (fun rv h212 qh212 => ?_)
              obtain ⟨wh212, fh212, rfl⟩ := qh212
              have hfh212 := hfh211.tr (fh212.weak weak_PMk_PMt)
              have F2h212 := F2h211.tr (fh212.weak (only33 (fun _ => rfl) rfl))
              have Jh212 := i1_fr fh212 (by decide) (by decide) (by decide) (by decide) Jh211
              have Kh212 := i2_fr fh212 (by decide) (by decide) Kh211
              show TT _ _ _ _ _ _ _ _ [] _
              refine tt_aload_n (pc := 124) dX7_turn_124 (.tail _ (.tail _ (.tail _ (.head _)))) ?_
              refine tt_iload (pc := 125) dX7_turn_125 (.head _) ?_
              refine tt_iload_n (pc := 127) dX7_turn_127 (.tail _ (.tail _ (.tail _ (.tail _ (.head _))))) ?_
              refine tw_callV (kc := 0) (ks := 0) (mc := 0) (ms := 0) (as := [.inl x185, .inl a1]) (st := []) (pc := 128) wh212 ta0 (by decide) dX7_turn_128 lkX7_206 imX7_showMappings seX7_showMappings rfl rfl (by decide) (by decide) (Nat.le_of_ble_eq_true rfl) (g_X7_showMappings hN2 hN8 hp0 hp64 wh212 a0 ta0 x185 (by omega) (by omega) a1 (by omega) (by omega)) (fun rv h213 qh213 => ?_)
              obtain ⟨wh213, fh213, rfl⟩ := qh213
              have hfh213 := hfh212.tr (fh213.weak weak_PMk_PMt)
              have F2h213 := F2h212.tr (fh213.weak (only33 (fun _ => rfl) rfl))
              have Jh213 := i1_fr fh213 (by decide) (by decide) (by decide) (by decide) Jh212
              have Kh213 := i2_fr fh213 (by decide) (by decide) Kh212
              show TT _ _ _ _ _ _ _ _ [] _
              refine tt_goto (tgt := 148) (pc := 131) dX7_turn_131 (by decide) ?_
              refine tt_aload_n (pc := 148) dX7_turn_148 (.tail _ (.tail _ (.tail _ (.head _)))) ?_
              refine tt_iload (pc := 149) dX7_turn_149 (.tail _ (.head _)) ?_
              refine tw_callV (kc := 0) (ks := 0) (mc := 0) (ms := 0) (as := [.inl x181]) (st := []) (pc := 151) wh213 ta0 (by decide) dX7_turn_151 lkX7_170 imX7_check seX7_check rfl rfl (by decide) (by decide) (Nat.le_of_ble_eq_true rfl) (g_X7_check hN2 hN8 hp0 hp64 wh213 a0 ta0 x181 (by omega) (by omega)) (fun rv h214 qh214 => ?_)
              obtain ⟨wh214, fh214, rfl⟩ := qh214
              have hfh214 := hfh213.tr (fh214.weak weak_PMk_PMt)
              have F2h214 := F2h213.tr (fh214.weak (only33 (fun _ => rfl) rfl))
              have Jh214 := i1_fr fh214 (by decide) (by decide) (by decide) (by decide) Jh213
              have Kh214 := i2_fr fh214 (by decide) (by decide) Kh213
              show TT _ _ _ _ _ _ _ _ [] _
              refine tt_aload_n (pc := 154) dX7_turn_154 (.tail _ (.tail _ (.tail _ (.head _)))) ?_
              refine tt_iload (pc := 155) dX7_turn_155 (.head _) ?_
              refine tw_callV (kc := 0) (ks := 0) (mc := 0) (ms := 0) (as := [.inl x185]) (st := []) (pc := 157) wh214 ta0 (by decide) dX7_turn_157 lkX7_170 imX7_check seX7_check rfl rfl (by decide) (by decide) (Nat.le_of_ble_eq_true rfl) (g_X7_check hN2 hN8 hp0 hp64 wh214 a0 ta0 x185 (by omega) (by omega)) (fun rv h215 qh215 => ?_)
              obtain ⟨wh215, fh215, rfl⟩ := qh215
              have hfh215 := hfh214.tr (fh215.weak weak_PMk_PMt)
              have F2h215 := F2h214.tr (fh215.weak (only33 (fun _ => rfl) rfl))
              have Jh215 := i1_fr fh215 (by decide) (by decide) (by decide) (by decide) Jh214
              have Kh215 := i2_fr fh215 (by decide) (by decide) Kh214
              show TT _ _ _ _ _ _ _ _ [] _
              refine tt_stop ?_
              rw [hQ]
              exact Or.inl ⟨dX7_turn_160, rfl, rfl, wh215, hfh215, Jh215, Kh215, rfl, x169, thr_fr F2h215 ta0 rfl T9, Or.inr (Or.inr ⟨⟨by omega, by omega⟩, by omega, ⟨x132, ⟨q131, _, _, tq131, ef133, gf133⟩, by omega⟩, q147, f149, x148, tq147, ef149, gf149, by omega, fr_arrI F2h215 tq147 rfl G9⟩)⟩
          · skip
            refine tt_aload_n (pc := 71) dX7_turn_71 (.tail _ (.tail _ (.tail _ (.head _)))) ?_
            refine tw_iconst (pc := 72) dX7_turn_72 (by decide) (fun x216 ex216 => ?_)
            refine tt_iload_n (pc := 73) dX7_turn_73 (.tail _ (.tail _ (.tail _ (.tail _ (.head _))))) ?_
            refine tw_imul (c := 2) (pc := 74) dX7_turn_74 (by omega) (by omega) (fun x217 ex217 => ?_)
            refine tw_callV (kc := 0) (ks := 0) (mc := 0) (ms := 0) (as := [.inl x217]) (st := []) (pc := 75) wh188 ta0 (by decide) dX7_turn_75 lkX7_197 imX7_empty seX7_empty rfl rfl (by decide) (by decide) (Nat.le_of_ble_eq_true rfl) (g_X7_empty hN2 hN8 hp0 hp64 wh188 a0 ta0 x217 (by omega) (by omega)) (fun rv h218 qh218 => ?_)
            obtain ⟨wh218, fh218, rfl⟩ := qh218
            have hfh218 := hfh188.tr (fh218.weak weak_PMk_PMt)
            have F2h218 := F2h188.tr (fh218.weak (only33 (fun _ => rfl) rfl))
            have Xh218 := i1x_fr fh218 (by decide) (by decide) (by decide) (by decide) Xh188
            have Kh218 := i2_fr fh218 (by decide) (by decide) Kh188
            show TT _ _ _ _ _ _ _ _ [] _
            refine tt_aload_n (pc := 78) dX7_turn_78 (.tail _ (.tail _ (.tail _ (.head _)))) ?_
            refine tw_iconst (pc := 79) dX7_turn_79 (by decide) (fun x219 ex219 => ?_)
            refine tt_iload_n (pc := 80) dX7_turn_80 (.tail _ (.tail _ (.tail _ (.tail _ (.head _))))) ?_
            refine tw_imul (c := 2) (pc := 81) dX7_turn_81 (by omega) (by omega) (fun x220 ex220 => ?_)
            refine tw_iconst (pc := 82) dX7_turn_82 (by decide) (fun x221 ex221 => ?_)
            refine tw_iadd (pc := 83) dX7_turn_83 (by omega) (fun x222 ex222 => ?_)
            refine tw_callV (kc := 0) (ks := 0) (mc := 0) (ms := 0) (as := [.inl x222]) (st := []) (pc := 84) wh218 ta0 (by decide) dX7_turn_84 lkX7_197 imX7_empty seX7_empty rfl rfl (by decide) (by decide) (Nat.le_of_ble_eq_true rfl) (g_X7_empty hN2 hN8 hp0 hp64 wh218 a0 ta0 x222 (by omega) (by omega)) (fun rv h223 qh223 => ?_)
            obtain ⟨wh223, fh223, rfl⟩ := qh223
            have hfh223 := hfh218.tr (fh223.weak weak_PMk_PMt)
            have F2h223 := F2h218.tr (fh223.weak (only33 (fun _ => rfl) rfl))
            have Xh223 := i1x_fr fh223 (by decide) (by decide) (by decide) (by decide) Xh218
            have Kh223 := i2_fr fh223 (by decide) (by decide) Kh218
            show TT _ _ _ _ _ _ _ _ [] _
            refine tt_aload_n (pc := 87) dX7_turn_87 (.tail _ (.tail _ (.tail _ (.head _)))) ?_
            refine tt_iload (pc := 88) dX7_turn_88 (.tail _ (.head _)) ?_
            refine tw_callV (kc := 0) (ks := 0) (mc := 0) (ms := 0) (as := [.inl x181]) (st := []) (pc := 90) wh223 ta0 (by decide) dX7_turn_90 lkX7_200 imX7_tell seX7_tell rfl rfl (by decide) (by decide) (Nat.le_of_ble_eq_true rfl) (g_X7_tellE hN2 hN8 hp0 hp64 wh223 a0 ta0 x181 (by omega) (by omega)) (fun rv h224 qh224 => ?_)
            obtain ⟨wh224, fh224, rfl, ownh224, rrh224⟩ := qh224
            have hfh224 := hfh223.tr (fh224.weak weak_PM_PMt)
            have F2h224 := F2h223.tr (fh224.weak (only33 (fun _ => rfl) rfl))
            have Xh224 : I1x τ h224 x181.toInt.toNat x185.toInt.toNat := fun r9 h9 na nb => rrh224 r9 na (Xh223 r9 h9 na nb)
            have Kh224 := i2_fr fh224 (by decide) (by decide) Kh223
            show TT _ _ _ _ _ _ _ _ [] _
            refine tt_aload_n (pc := 93) dX7_turn_93 (.tail _ (.tail _ (.tail _ (.head _)))) ?_
            refine tt_iload (pc := 94) dX7_turn_94 (.head _) ?_
            refine tw_callV (kc := 0) (ks := 0) (mc := 0) (ms := 0) (as := [.inl x185]) (st := []) (pc := 96) wh224 ta0 (by decide) dX7_turn_96 lkX7_200 imX7_tell seX7_tell rfl rfl (by decide) (by decide) (Nat.le_of_ble_eq_true rfl) (g_X7_tellE hN2 hN8 hp0 hp64 wh224 a0 ta0 x185 (by omega) (by omega)) (fun rv h225 qh225 => ?_)
            obtain ⟨wh225, fh225, rfl, ownh225, rrh225⟩ := qh225
            have hfh225 := hfh224.tr (fh225.weak weak_PM_PMt)
            have F2h225 := F2h224.tr (fh225.weak (only33 (fun _ => rfl) rfl))
            have Jh225 : I1 τ h225 := i1_iff.mpr (fun r9 h9 => by
              by_cases e1 : r9 = x185.toInt.toNat
              · rw [e1]; exact ownh225
              · by_cases e2 : r9 = x181.toInt.toNat
                · rw [e2]; exact rrh225 _ (by rw [← e2]; exact e1) ownh224
                · exact rrh225 r9 e1 (Xh224 r9 h9 e2 e1))
            have Kh225 := i2_fr fh225 (by decide) (by decide) Kh224
            show TT _ _ _ _ _ _ _ _ [] _
            refine tt_iload_n (pc := 99) dX7_turn_99 (.tail _ (.tail _ (.tail _ (.tail _ (.tail _ (.head _)))))) ?_
            refine tw_if (tgt := 134) (pc := 100) dX7_turn_100 (by decide) (fun (c226 : a2.toInt = 0) => ?_) (fun (c226 : ¬ (a2.toInt = 0)) => ?_)
            · skip
              refine tt_aload_n (pc := 134) dX7_turn_134 (.tail _ (.tail _ (.tail _ (.head _)))) ?_
              refine tt_iload (pc := 135) dX7_turn_135 (.tail _ (.head _)) ?_
              refine tt_iload_n (pc := 137) dX7_turn_137 (.tail _ (.tail _ (.tail _ (.tail _ (.head _))))) ?_
              refine tw_callV (kc := 0) (ks := 0) (mc := 0) (ms := 0) (as := [.inl x181, .inl a1]) (st := []) (pc := 138) wh225 ta0 (by decide) dX7_turn_138 lkX7_209 imX7_sever seX7_sever rfl rfl (by decide) (by decide) (Nat.le_of_ble_eq_true rfl) (g_X7_sever hN2 hN8 hp0 hp64 wh225 a0 ta0 x181 (by omega) (by omega) a1 (by omega) (by omega)) (fun rv h227 qh227 => ?_)
              obtain ⟨wh227, fh227, rfl⟩ := qh227
              have hfh227 := hfh225.tr (fh227.weak weak_PMk_PMt)
              have F2h227 := F2h225.tr (fh227.weak (only33 (fun _ => rfl) rfl))
              have Jh227 := i1_fr fh227 (by decide) (by decide) (by decide) (by decide) Jh225
              have Kh227 := i2_fr fh227 (by decide) (by decide) Kh225
              show TT _ _ _ _ _ _ _ _ [] _
              refine tt_aload_n (pc := 141) dX7_turn_141 (.tail _ (.tail _ (.tail _ (.head _)))) ?_
              refine tt_iload (pc := 142) dX7_turn_142 (.head _) ?_
              refine tt_iload_n (pc := 144) dX7_turn_144 (.tail _ (.tail _ (.tail _ (.tail _ (.head _))))) ?_
              refine tw_callV (kc := 0) (ks := 0) (mc := 0) (ms := 0) (as := [.inl x185, .inl a1]) (st := []) (pc := 145) wh227 ta0 (by decide) dX7_turn_145 lkX7_209 imX7_sever seX7_sever rfl rfl (by decide) (by decide) (Nat.le_of_ble_eq_true rfl) (g_X7_sever hN2 hN8 hp0 hp64 wh227 a0 ta0 x185 (by omega) (by omega) a1 (by omega) (by omega)) (fun rv h228 qh228 => ?_)
              obtain ⟨wh228, fh228, rfl⟩ := qh228
              have hfh228 := hfh227.tr (fh228.weak weak_PMk_PMt)
              have F2h228 := F2h227.tr (fh228.weak (only33 (fun _ => rfl) rfl))
              have Jh228 := i1_fr fh228 (by decide) (by decide) (by decide) (by decide) Jh227
              have Kh228 := i2_fr fh228 (by decide) (by decide) Kh227
              show TT _ _ _ _ _ _ _ _ [] _
              refine tt_aload_n (pc := 148) dX7_turn_148 (.tail _ (.tail _ (.tail _ (.head _)))) ?_
              refine tt_iload (pc := 149) dX7_turn_149 (.tail _ (.head _)) ?_
              refine tw_callV (kc := 0) (ks := 0) (mc := 0) (ms := 0) (as := [.inl x181]) (st := []) (pc := 151) wh228 ta0 (by decide) dX7_turn_151 lkX7_170 imX7_check seX7_check rfl rfl (by decide) (by decide) (Nat.le_of_ble_eq_true rfl) (g_X7_check hN2 hN8 hp0 hp64 wh228 a0 ta0 x181 (by omega) (by omega)) (fun rv h229 qh229 => ?_)
              obtain ⟨wh229, fh229, rfl⟩ := qh229
              have hfh229 := hfh228.tr (fh229.weak weak_PMk_PMt)
              have F2h229 := F2h228.tr (fh229.weak (only33 (fun _ => rfl) rfl))
              have Jh229 := i1_fr fh229 (by decide) (by decide) (by decide) (by decide) Jh228
              have Kh229 := i2_fr fh229 (by decide) (by decide) Kh228
              show TT _ _ _ _ _ _ _ _ [] _
              refine tt_aload_n (pc := 154) dX7_turn_154 (.tail _ (.tail _ (.tail _ (.head _)))) ?_
              refine tt_iload (pc := 155) dX7_turn_155 (.head _) ?_
              refine tw_callV (kc := 0) (ks := 0) (mc := 0) (ms := 0) (as := [.inl x185]) (st := []) (pc := 157) wh229 ta0 (by decide) dX7_turn_157 lkX7_170 imX7_check seX7_check rfl rfl (by decide) (by decide) (Nat.le_of_ble_eq_true rfl) (g_X7_check hN2 hN8 hp0 hp64 wh229 a0 ta0 x185 (by omega) (by omega)) (fun rv h230 qh230 => ?_)
              obtain ⟨wh230, fh230, rfl⟩ := qh230
              have hfh230 := hfh229.tr (fh230.weak weak_PMk_PMt)
              have F2h230 := F2h229.tr (fh230.weak (only33 (fun _ => rfl) rfl))
              have Jh230 := i1_fr fh230 (by decide) (by decide) (by decide) (by decide) Jh229
              have Kh230 := i2_fr fh230 (by decide) (by decide) Kh229
              show TT _ _ _ _ _ _ _ _ [] _
              refine tt_stop ?_
              rw [hQ]
              exact Or.inl ⟨dX7_turn_160, rfl, rfl, wh230, hfh230, Jh230, Kh230, rfl, x169, thr_fr F2h230 ta0 rfl T9, Or.inr (Or.inr ⟨⟨by omega, by omega⟩, by omega, ⟨x132, ⟨q131, _, _, tq131, ef133, gf133⟩, by omega⟩, q147, f149, x148, tq147, ef149, gf149, by omega, fr_arrI F2h230 tq147 rfl G9⟩)⟩
            · skip
              exfalso
              omega
        · skip
          refine tt_stop ?_
          rw [hQ]
          exact Or.inl ⟨dX7_turn_43, rfl, rfl, wh166, hfh166, Jh166, Kh166, rfl, x169, ⟨_, eh166, gh166⟩, (by first | exact Or.inl ⟨by omega, by omega, fh166⟩ | exact Or.inr (Or.inl ⟨⟨by omega, by omega⟩, by omega, fh166, Or.inl ⟨x132, ⟨q131, _, _, tq131, ef133, gf133⟩, by omega⟩⟩) | exact Or.inr (Or.inl ⟨⟨by omega, by omega⟩, by omega, fh166, Or.inr ⟨x148, ⟨q147, _, _, tq147, ef149, gf149⟩, by omega⟩⟩))⟩
