abbrev mX7_turn : tM := (RX7, cX7_turn, 6, 6, 153, false)
set_option maxHeartbeats 4000000 in
theorem g_X7_turn {l : Launch} {D : va_G} {N : Nat} {pk : Int} {τ : List Nat} (hN2 : 2 ≤ N) (hN8 : N ≤ 8) (hp0 : 0 ≤ pk) (hp64 : pk ≤ 64) {h : List tC} (hw : WT N pk τ h) (a0 : Nat) (ta0 : τ[a0]? = some 7) (a1 : Int32) (a2 : Int32) (la2 : 0 ≤ a2.toInt) (ua2 : a2.toInt ≤ 1) (hI : I1 τ h) : TMc l D yX7_turn cX7_turn 6 none 6 153 0 0 [.inr (some a0), .inl a1, .inl a2] h (fun rv h' => WT N pk τ h' ∧ Fr PMt τ h h' ∧ I1 τ h' ∧ rv = none) := by
  refine tmc_of false rfl (by decide) (Nat.le_of_ble_eq_true rfl) ?_
  suffices HQ : ∀ Q0, Q0 = tRt cX7_turn none (fun rv h' => WT N pk τ h' ∧ Fr PMt τ h h' ∧ I1 τ h' ∧ rv = none) → TT l D mX7_turn Q0 0 0 0 [(0, .inr (some a0)), (1, .inl a1), (2, .inl a2)] [] h from HQ _ rfl
  intro Q0 hQ
  have hf : Fr PMt τ h h := Fr.rf
  have ba1 := i_ty a1
  refine tt_iload_n (pc := 0) dX7_turn_0 (.tail _ (.head _)) ?_
  refine tw_bipush (pc := 1) dX7_turn_1 (by decide) (fun x116 ex116 => ?_)
  refine tt_callS (kc := 0) (ks := 0) (mc := 0) (ms := 0) (as := [.inl a1, .inl x116]) (st := []) (pc := 3) dX7_turn_3 lkX7_99 smX7_in rfl (by decide) (by decide) (Nat.le_of_ble_eq_true rfl) (g_X7_in hN2 hN8 hp0 hp64 hw a1 x116) (fun rv h117 qh117 => ?_)
  obtain ⟨rfl, x118, rfl, lx118, ux118, Gx118, Zx118⟩ := qh117
  show TT _ _ _ _ _ _ _ _ [.inl x118] _
  refine tt_istore_n (pc := 6) dX7_turn_6 (by decide) ?_
  show TT _ _ _ _ _ _ _ [(3, .inl x118), (0, .inr (some a0)), (1, .inl a1), (2, .inl a2)] _ _
  refine tt_aload_n (pc := 7) dX7_turn_7 (.tail _ (.head _)) ?_
  refine tt_iload_n (pc := 8) dX7_turn_8 (.head _) ?_
  refine tt_iload_n (pc := 9) dX7_turn_9 (.head _) ?_
  refine tw_if (tgt := 36) (pc := 10) dX7_turn_10 (by decide) (fun (c121 : x118.toInt = 0) => ?_) (fun (c121 : ¬ (x118.toInt = 0)) => ?_)
  · skip
    refine tw_iconst (pc := 36) dX7_turn_36 (by decide) (fun x122 ex122 => ?_)
    refine tw_callV (kc := 0) (ks := 0) (mc := 0) (ms := 0) (as := [.inl x118, .inl x122]) (st := []) (pc := 37) hw ta0 (by decide) dX7_turn_37 lkX7_193 imX7_goes seX7_goes rfl rfl (by decide) (by decide) (Nat.le_of_ble_eq_true rfl) (g_X7_goesE hN2 hN8 hp0 hp64 hw a0 ta0 x118 (by omega) (by omega) x122 (by omega) (by omega)) (fun rv h123 qh123 => ?_)
    obtain ⟨wh123, fh123, x125, x126, rfl, ⟨fsh123, eh123, gh123⟩, ⟨lx125, ux125⟩, Ah123, Bh123, Ch123⟩ := qh123
    have hfh123 := hf.tr (fh123.weak weak_PMg_PMt)
    have Jh123 := i1_fr fh123 (by decide) (by decide) (by decide) (by decide) hI
    show TT _ _ _ _ _ _ _ _ [.inl x125] _
    refine tw_if (tgt := 44) (pc := 40) dX7_turn_40 (by decide) (fun (c129 : x125.toInt ≠ 0) => ?_) (fun (c129 : ¬ (x125.toInt ≠ 0)) => ?_)
    · skip
      exfalso
      omega
    · skip
      refine tt_stop ?_
      rw [hQ]
      exact Or.inl ⟨dX7_turn_43, rfl, rfl, wh123, hfh123, Jh123, rfl⟩
  · skip
    obtain ⟨b119, b120⟩ := Gx118 (by omega)
    refine tt_aload_n (pc := 13) dX7_turn_13 (.tail _ (.head _)) ?_
    refine tw_getr (pc := 14) dX7_turn_14 flX7_7 hw ta0 (by decide) rfl (fun f130 q131 ef130 gf130 tq131 => ?_)
    refine tt_iload_n (pc := 17) dX7_turn_17 (.tail _ (.tail _ (.head _))) ?_
    refine tw_zld (pc := 18) dX7_turn_18 hw tq131 rfl (by omega) (by omega) (fun f133 x132 ef133 gf133 lx132 ux132 => ?_)
    refine tw_if (tgt := 36) (pc := 19) dX7_turn_19 (by decide) (fun (c134 : x132.toInt = 0) => ?_) (fun (c134 : ¬ (x132.toInt = 0)) => ?_)
    · skip
      refine tw_iconst (pc := 36) dX7_turn_36 (by decide) (fun x135 ex135 => ?_)
      refine tw_callV (kc := 0) (ks := 0) (mc := 0) (ms := 0) (as := [.inl x118, .inl x135]) (st := []) (pc := 37) hw ta0 (by decide) dX7_turn_37 lkX7_193 imX7_goes seX7_goes rfl rfl (by decide) (by decide) (Nat.le_of_ble_eq_true rfl) (g_X7_goesE hN2 hN8 hp0 hp64 hw a0 ta0 x118 (by omega) (by omega) x135 (by omega) (by omega)) (fun rv h136 qh136 => ?_)
      obtain ⟨wh136, fh136, x138, x139, rfl, ⟨fsh136, eh136, gh136⟩, ⟨lx138, ux138⟩, Ah136, Bh136, Ch136⟩ := qh136
      have hfh136 := hf.tr (fh136.weak weak_PMg_PMt)
      have Jh136 := i1_fr fh136 (by decide) (by decide) (by decide) (by decide) hI
      obtain ⟨f140, E141, G142⟩ := fr_fld fh136 ta0 (by decide) ef130 gf130
      show TT _ _ _ _ _ _ _ _ [.inl x138] _
      refine tw_if (tgt := 44) (pc := 40) dX7_turn_40 (by decide) (fun (c145 : x138.toInt ≠ 0) => ?_) (fun (c145 : ¬ (x138.toInt ≠ 0)) => ?_)
      · skip
        exfalso
        omega
      · skip
        refine tt_stop ?_
        rw [hQ]
        exact Or.inl ⟨dX7_turn_43, rfl, rfl, wh136, hfh136, Jh136, rfl⟩
    · skip
      refine tt_aload_n (pc := 22) dX7_turn_22 (.tail _ (.head _)) ?_
      refine tw_getr (pc := 23) dX7_turn_23 flX7_13 hw ta0 (by decide) rfl (fun f146 q147 ef146 gf146 tq147 => ?_)
      refine tt_iload_n (pc := 26) dX7_turn_26 (.tail _ (.tail _ (.head _))) ?_
      refine tw_zld (pc := 27) dX7_turn_27 hw tq147 rfl (by omega) (by omega) (fun f149 x148 ef149 gf149 lx148 ux148 => ?_)
      refine tt_iload_n (pc := 28) dX7_turn_28 (.tail _ (.tail _ (.tail _ (.head _)))) ?_
      refine tw_icmp (tgt := 36) (pc := 29) dX7_turn_29 (by decide) (fun (c150 : x148.toInt = a2.toInt) => ?_) (fun (c150 : ¬ (x148.toInt = a2.toInt)) => ?_)
      · skip
        refine tw_iconst (pc := 36) dX7_turn_36 (by decide) (fun x151 ex151 => ?_)
        refine tw_callV (kc := 0) (ks := 0) (mc := 0) (ms := 0) (as := [.inl x118, .inl x151]) (st := []) (pc := 37) hw ta0 (by decide) dX7_turn_37 lkX7_193 imX7_goes seX7_goes rfl rfl (by decide) (by decide) (Nat.le_of_ble_eq_true rfl) (g_X7_goesE hN2 hN8 hp0 hp64 hw a0 ta0 x118 (by omega) (by omega) x151 (by omega) (by omega)) (fun rv h152 qh152 => ?_)
        obtain ⟨wh152, fh152, x154, x155, rfl, ⟨fsh152, eh152, gh152⟩, ⟨lx154, ux154⟩, Ah152, Bh152, Ch152⟩ := qh152
        have hfh152 := hf.tr (fh152.weak weak_PMg_PMt)
        have Jh152 := i1_fr fh152 (by decide) (by decide) (by decide) (by decide) hI
        obtain ⟨f156, E157, G158⟩ := fr_fld fh152 ta0 (by decide) ef130 gf130
        obtain ⟨f159, E160, G161⟩ := fr_fld fh152 ta0 (by decide) ef146 gf146
        show TT _ _ _ _ _ _ _ _ [.inl x154] _
        refine tw_if (tgt := 44) (pc := 40) dX7_turn_40 (by decide) (fun (c164 : x154.toInt ≠ 0) => ?_) (fun (c164 : ¬ (x154.toInt ≠ 0)) => ?_)
        · skip
          exfalso
          omega
        · skip
          refine tt_stop ?_
          rw [hQ]
          exact Or.inl ⟨dX7_turn_43, rfl, rfl, wh152, hfh152, Jh152, rfl⟩
      · skip
        refine tw_iconst (pc := 32) dX7_turn_32 (by decide) (fun x165 ex165 => ?_)
        refine tt_goto (tgt := 37) (pc := 33) dX7_turn_33 (by decide) ?_
        refine tw_callV (kc := 0) (ks := 0) (mc := 0) (ms := 0) (as := [.inl x118, .inl x165]) (st := []) (pc := 37) hw ta0 (by decide) dX7_turn_37 lkX7_193 imX7_goes seX7_goes rfl rfl (by decide) (by decide) (Nat.le_of_ble_eq_true rfl) (g_X7_goesE hN2 hN8 hp0 hp64 hw a0 ta0 x118 (by omega) (by omega) x165 (by omega) (by omega)) (fun rv h166 qh166 => ?_)
        obtain ⟨wh166, fh166, x168, x169, rfl, ⟨fsh166, eh166, gh166⟩, ⟨lx168, ux168⟩, Ah166, Bh166, Ch166⟩ := qh166
        have hfh166 := hf.tr (fh166.weak weak_PMg_PMt)
        have Jh166 := i1_fr fh166 (by decide) (by decide) (by decide) (by decide) hI
        obtain ⟨f170, E171, G172⟩ := fr_fld fh166 ta0 (by decide) ef130 gf130
        obtain ⟨f173, E174, G175⟩ := fr_fld fh166 ta0 (by decide) ef146 gf146
        show TT _ _ _ _ _ _ _ _ [.inl x168] _
        refine tw_if (tgt := 44) (pc := 40) dX7_turn_40 (by decide) (fun (c178 : x168.toInt ≠ 0) => ?_) (fun (c178 : ¬ (x168.toInt ≠ 0)) => ?_)
        · skip
          obtain ⟨b176, b177⟩ := (fun zz => (show x118.toInt = 1 ∧ x165.toInt = 1 from by omega)) (by omega)
          refine tt_aload_n (pc := 44) dX7_turn_44 (.tail _ (.head _)) ?_
          refine tw_getr (pc := 45) dX7_turn_45 flX7_16 wh166 ta0 (by decide) rfl (fun f179 q180 ef179 gf179 tq180 => ?_)
          refine tt_iload_n (pc := 48) dX7_turn_48 (.tail _ (.tail _ (.head _))) ?_
          refine tw_ild (pc := 49) dX7_turn_49 wh166 tq180 rfl (by omega) (by omega) (fun f182 x181 ef182 gf182 lx181 ux181 => ?_)
          refine tt_istore (pc := 50) dX7_turn_50 (by decide) ?_
          show TT _ _ _ _ _ _ _ [(4, .inl x181), (3, .inl x118), (0, .inr (some a0)), (1, .inl a1), (2, .inl a2)] _ _
          refine tt_aload_n (pc := 52) dX7_turn_52 (.tail _ (.tail _ (.head _))) ?_
          refine tw_getr (pc := 53) dX7_turn_53 flX7_20 wh166 ta0 (by decide) rfl (fun f183 q184 ef183 gf183 tq184 => ?_)
          refine tt_iload_n (pc := 56) dX7_turn_56 (.tail _ (.tail _ (.tail _ (.head _)))) ?_
          refine tw_ild (pc := 57) dX7_turn_57 wh166 tq184 rfl (by omega) (by omega) (fun f186 x185 ef186 gf186 lx185 ux185 => ?_)
          refine tt_istore (pc := 58) dX7_turn_58 (by decide) ?_
          show TT _ _ _ _ _ _ _ [(5, .inl x185), (4, .inl x181), (3, .inl x118), (0, .inr (some a0)), (1, .inl a1), (2, .inl a2)] _ _
          refine tt_aload_n (pc := 60) dX7_turn_60 (.tail _ (.tail _ (.tail _ (.head _)))) ?_
          refine tt_get (pc := 61) dX7_turn_61 flX7_13 E174 G175 ?_
          refine tt_iload_n (pc := 64) dX7_turn_64 (.tail _ (.tail _ (.tail _ (.tail _ (.head _))))) ?_
          refine tt_iload_n (pc := 65) dX7_turn_65 (.tail _ (.tail _ (.tail _ (.tail _ (.tail _ (.head _)))))) ?_
          refine tw_zst (P := (PEX 33)) (pc := 66) dX7_turn_66 wh166 tq147 rfl (by omega) (by omega) (by omega) (by omega) (by decide) (fun f187 h188 eh188 gh188 kh188 wh188 fh188 => ?_)
          have hfh188 := hfh166.tr (fh188.weak (weak_PEX (fun _ => rfl)))
          obtain ⟨f189, E190, G191⟩ := fr_fld fh188 ta0 (by decide) E171 G172
          obtain ⟨f192, E193, G194⟩ := fr_fld fh188 ta0 (by decide) E174 G175
          obtain ⟨f195, E196, G197⟩ := fr_fld fh188 ta0 (by decide) eh166 gh166
          obtain ⟨f198, E199, G200⟩ := fr_fld fh188 ta0 (by decide) ef179 gf179
          have E201 := fr_arrI fh188 tq180 (by decide) ef182
          obtain ⟨f202, E203, G204⟩ := fr_fld fh188 ta0 (by decide) ef183 gf183
          have E205 := fr_arrI fh188 tq184 (by decide) ef186
          have Xh188 := i1x_up hw.2.2.2 fh188 tq147 eh188 gh188 (lo0 := x181) (hi0 := x185) ⟨q180, _, _, tq180, ef182, gf182⟩ ⟨q184, _, _, tq184, ef186, gf186⟩ Jh166 (a := x181.toInt.toNat) (b := x185.toInt.toNat) (by omega) (by omega)
          refine tt_iload_n (pc := 67) dX7_turn_67 (.tail _ (.tail _ (.tail _ (.tail _ (.tail _ (.head _)))))) ?_
          refine tw_if (tgt := 87) (pc := 68) dX7_turn_68 (by decide) (fun (c206 : a2.toInt ≠ 0) => ?_) (fun (c206 : ¬ (a2.toInt ≠ 0)) => ?_)
          · skip
            refine tt_aload_n (pc := 87) dX7_turn_87 (.tail _ (.tail _ (.tail _ (.head _)))) ?_
            refine tt_iload (pc := 88) dX7_turn_88 (.tail _ (.head _)) ?_
            refine tw_callV (kc := 0) (ks := 0) (mc := 0) (ms := 0) (as := [.inl x181]) (st := []) (pc := 90) wh188 ta0 (by decide) dX7_turn_90 lkX7_200 imX7_tell seX7_tell rfl rfl (by decide) (by decide) (Nat.le_of_ble_eq_true rfl) (g_X7_tellE hN2 hN8 hp0 hp64 wh188 a0 ta0 x181 (by omega) (by omega)) (fun rv h207 qh207 => ?_)
            obtain ⟨wh207, fh207, rfl, ownh207, rrh207⟩ := qh207
            have hfh207 := hfh188.tr (fh207.weak weak_PM_PMt)
            have Xh207 : I1x τ h207 x181.toInt.toNat x185.toInt.toNat := fun r9 h9 na nb => rrh207 r9 na (Xh188 r9 h9 na nb)
            show TT _ _ _ _ _ _ _ _ [] _
            refine tt_aload_n (pc := 93) dX7_turn_93 (.tail _ (.tail _ (.tail _ (.head _)))) ?_
            refine tt_iload (pc := 94) dX7_turn_94 (.head _) ?_
            refine tw_callV (kc := 0) (ks := 0) (mc := 0) (ms := 0) (as := [.inl x185]) (st := []) (pc := 96) wh207 ta0 (by decide) dX7_turn_96 lkX7_200 imX7_tell seX7_tell rfl rfl (by decide) (by decide) (Nat.le_of_ble_eq_true rfl) (g_X7_tellE hN2 hN8 hp0 hp64 wh207 a0 ta0 x185 (by omega) (by omega)) (fun rv h208 qh208 => ?_)
            obtain ⟨wh208, fh208, rfl, ownh208, rrh208⟩ := qh208
            have hfh208 := hfh207.tr (fh208.weak weak_PM_PMt)
            have Jh208 : I1 τ h208 := i1_iff.mpr (fun r9 h9 => by
              by_cases e1 : r9 = x185.toInt.toNat
              · rw [e1]; exact ownh208
              · by_cases e2 : r9 = x181.toInt.toNat
                · rw [e2]; exact rrh208 _ (by rw [← e2]; exact e1) ownh207
                · exact rrh208 r9 e1 (Xh207 r9 h9 e2 e1))
            show TT _ _ _ _ _ _ _ _ [] _
            refine tt_iload_n (pc := 99) dX7_turn_99 (.tail _ (.tail _ (.tail _ (.tail _ (.tail _ (.head _)))))) ?_
            refine tw_if (tgt := 134) (pc := 100) dX7_turn_100 (by decide) (fun (c209 : a2.toInt = 0) => ?_) (fun (c209 : ¬ (a2.toInt = 0)) => ?_)
            · skip
              exfalso
              omega
            · skip
              refine tt_aload_n (pc := 103) dX7_turn_103 (.tail _ (.tail _ (.tail _ (.head _)))) ?_
              refine tt_iload (pc := 104) dX7_turn_104 (.tail _ (.head _)) ?_
              refine tt_iload_n (pc := 106) dX7_turn_106 (.tail _ (.tail _ (.tail _ (.tail _ (.head _))))) ?_
              refine tw_callV (kc := 0) (ks := 0) (mc := 0) (ms := 0) (as := [.inl x181, .inl a1]) (st := []) (pc := 107) wh208 ta0 (by decide) dX7_turn_107 lkX7_203 imX7_showNotes seX7_showNotes rfl rfl (by decide) (by decide) (Nat.le_of_ble_eq_true rfl) (g_X7_showNotes hN2 hN8 hp0 hp64 wh208 a0 ta0 x181 (by omega) (by omega) a1 (by omega) (by omega)) (fun rv h210 qh210 => ?_)
              obtain ⟨wh210, fh210, rfl⟩ := qh210
              have hfh210 := hfh208.tr (fh210.weak weak_PMk_PMt)
              have Jh210 := i1_fr fh210 (by decide) (by decide) (by decide) (by decide) Jh208
              show TT _ _ _ _ _ _ _ _ [] _
              refine tt_aload_n (pc := 110) dX7_turn_110 (.tail _ (.tail _ (.tail _ (.head _)))) ?_
              refine tt_iload (pc := 111) dX7_turn_111 (.head _) ?_
              refine tt_iload_n (pc := 113) dX7_turn_113 (.tail _ (.tail _ (.tail _ (.tail _ (.head _))))) ?_
              refine tw_callV (kc := 0) (ks := 0) (mc := 0) (ms := 0) (as := [.inl x185, .inl a1]) (st := []) (pc := 114) wh210 ta0 (by decide) dX7_turn_114 lkX7_203 imX7_showNotes seX7_showNotes rfl rfl (by decide) (by decide) (Nat.le_of_ble_eq_true rfl) (g_X7_showNotes hN2 hN8 hp0 hp64 wh210 a0 ta0 x185 (by omega) (by omega) a1 (by omega) (by omega)) (fun rv h211 qh211 => ?_)
              obtain ⟨wh211, fh211, rfl⟩ := qh211
              have hfh211 := hfh210.tr (fh211.weak weak_PMk_PMt)
              have Jh211 := i1_fr fh211 (by decide) (by decide) (by decide) (by decide) Jh210
              show TT _ _ _ _ _ _ _ _ [] _
              refine tt_aload_n (pc := 117) dX7_turn_117 (.tail _ (.tail _ (.tail _ (.head _)))) ?_
              refine tt_iload (pc := 118) dX7_turn_118 (.tail _ (.head _)) ?_
              refine tt_iload_n (pc := 120) dX7_turn_120 (.tail _ (.tail _ (.tail _ (.tail _ (.head _))))) ?_
              refine tw_callV (kc := 0) (ks := 0) (mc := 0) (ms := 0) (as := [.inl x181, .inl a1]) (st := []) (pc := 121) wh211 ta0 (by decide) dX7_turn_121 lkX7_206 imX7_showMappings seX7_showMappings rfl rfl (by decide) (by decide) (Nat.le_of_ble_eq_true rfl) (g_X7_showMappings hN2 hN8 hp0 hp64 wh211 a0 ta0 x181 (by omega) (by omega) a1 (by omega) (by omega)) (fun rv h212 qh212 => ?_)
              obtain ⟨wh212, fh212, rfl⟩ := qh212
              have hfh212 := hfh211.tr (fh212.weak weak_PMk_PMt)
              have Jh212 := i1_fr fh212 (by decide) (by decide) (by decide) (by decide) Jh211
              show TT _ _ _ _ _ _ _ _ [] _
              refine tt_aload_n (pc := 124) dX7_turn_124 (.tail _ (.tail _ (.tail _ (.head _)))) ?_
              refine tt_iload (pc := 125) dX7_turn_125 (.head _) ?_
              refine tt_iload_n (pc := 127) dX7_turn_127 (.tail _ (.tail _ (.tail _ (.tail _ (.head _))))) ?_
              refine tw_callV (kc := 0) (ks := 0) (mc := 0) (ms := 0) (as := [.inl x185, .inl a1]) (st := []) (pc := 128) wh212 ta0 (by decide) dX7_turn_128 lkX7_206 imX7_showMappings seX7_showMappings rfl rfl (by decide) (by decide) (Nat.le_of_ble_eq_true rfl) (g_X7_showMappings hN2 hN8 hp0 hp64 wh212 a0 ta0 x185 (by omega) (by omega) a1 (by omega) (by omega)) (fun rv h213 qh213 => ?_)
              obtain ⟨wh213, fh213, rfl⟩ := qh213
              have hfh213 := hfh212.tr (fh213.weak weak_PMk_PMt)
              have Jh213 := i1_fr fh213 (by decide) (by decide) (by decide) (by decide) Jh212
              show TT _ _ _ _ _ _ _ _ [] _
              refine tt_goto (tgt := 148) (pc := 131) dX7_turn_131 (by decide) ?_
              refine tt_aload_n (pc := 148) dX7_turn_148 (.tail _ (.tail _ (.tail _ (.head _)))) ?_
              refine tt_iload (pc := 149) dX7_turn_149 (.tail _ (.head _)) ?_
              refine tw_callV (kc := 0) (ks := 0) (mc := 0) (ms := 0) (as := [.inl x181]) (st := []) (pc := 151) wh213 ta0 (by decide) dX7_turn_151 lkX7_170 imX7_check seX7_check rfl rfl (by decide) (by decide) (Nat.le_of_ble_eq_true rfl) (g_X7_check hN2 hN8 hp0 hp64 wh213 a0 ta0 x181 (by omega) (by omega)) (fun rv h214 qh214 => ?_)
              obtain ⟨wh214, fh214, rfl⟩ := qh214
              have hfh214 := hfh213.tr (fh214.weak weak_PMk_PMt)
              have Jh214 := i1_fr fh214 (by decide) (by decide) (by decide) (by decide) Jh213
              show TT _ _ _ _ _ _ _ _ [] _
              refine tt_aload_n (pc := 154) dX7_turn_154 (.tail _ (.tail _ (.tail _ (.head _)))) ?_
              refine tt_iload (pc := 155) dX7_turn_155 (.head _) ?_
              refine tw_callV (kc := 0) (ks := 0) (mc := 0) (ms := 0) (as := [.inl x185]) (st := []) (pc := 157) wh214 ta0 (by decide) dX7_turn_157 lkX7_170 imX7_check seX7_check rfl rfl (by decide) (by decide) (Nat.le_of_ble_eq_true rfl) (g_X7_check hN2 hN8 hp0 hp64 wh214 a0 ta0 x185 (by omega) (by omega)) (fun rv h215 qh215 => ?_)
              obtain ⟨wh215, fh215, rfl⟩ := qh215
              have hfh215 := hfh214.tr (fh215.weak weak_PMk_PMt)
              have Jh215 := i1_fr fh215 (by decide) (by decide) (by decide) (by decide) Jh214
              show TT _ _ _ _ _ _ _ _ [] _
              refine tt_stop ?_
              rw [hQ]
              exact Or.inl ⟨dX7_turn_160, rfl, rfl, wh215, hfh215, Jh215, rfl⟩
          · skip
            refine tt_aload_n (pc := 71) dX7_turn_71 (.tail _ (.tail _ (.tail _ (.head _)))) ?_
            refine tw_iconst (pc := 72) dX7_turn_72 (by decide) (fun x216 ex216 => ?_)
            refine tt_iload_n (pc := 73) dX7_turn_73 (.tail _ (.tail _ (.tail _ (.tail _ (.head _))))) ?_
            refine tw_imul (c := 2) (pc := 74) dX7_turn_74 (by omega) (by omega) (fun x217 ex217 => ?_)
            refine tw_callV (kc := 0) (ks := 0) (mc := 0) (ms := 0) (as := [.inl x217]) (st := []) (pc := 75) wh188 ta0 (by decide) dX7_turn_75 lkX7_197 imX7_empty seX7_empty rfl rfl (by decide) (by decide) (Nat.le_of_ble_eq_true rfl) (g_X7_empty hN2 hN8 hp0 hp64 wh188 a0 ta0 x217 (by omega) (by omega)) (fun rv h218 qh218 => ?_)
            obtain ⟨wh218, fh218, rfl⟩ := qh218
            have hfh218 := hfh188.tr (fh218.weak weak_PMk_PMt)
            have Xh218 := i1x_fr fh218 (by decide) (by decide) (by decide) (by decide) Xh188
            show TT _ _ _ _ _ _ _ _ [] _
            refine tt_aload_n (pc := 78) dX7_turn_78 (.tail _ (.tail _ (.tail _ (.head _)))) ?_
            refine tw_iconst (pc := 79) dX7_turn_79 (by decide) (fun x219 ex219 => ?_)
            refine tt_iload_n (pc := 80) dX7_turn_80 (.tail _ (.tail _ (.tail _ (.tail _ (.head _))))) ?_
            refine tw_imul (c := 2) (pc := 81) dX7_turn_81 (by omega) (by omega) (fun x220 ex220 => ?_)
            refine tw_iconst (pc := 82) dX7_turn_82 (by decide) (fun x221 ex221 => ?_)
            refine tw_iadd (pc := 83) dX7_turn_83 (by omega) (fun x222 ex222 => ?_)
            refine tw_callV (kc := 0) (ks := 0) (mc := 0) (ms := 0) (as := [.inl x222]) (st := []) (pc := 84) wh218 ta0 (by decide) dX7_turn_84 lkX7_197 imX7_empty seX7_empty rfl rfl (by decide) (by decide) (Nat.le_of_ble_eq_true rfl) (g_X7_empty hN2 hN8 hp0 hp64 wh218 a0 ta0 x222 (by omega) (by omega)) (fun rv h223 qh223 => ?_)
            obtain ⟨wh223, fh223, rfl⟩ := qh223
            have hfh223 := hfh218.tr (fh223.weak weak_PMk_PMt)
            have Xh223 := i1x_fr fh223 (by decide) (by decide) (by decide) (by decide) Xh218
            show TT _ _ _ _ _ _ _ _ [] _
            refine tt_aload_n (pc := 87) dX7_turn_87 (.tail _ (.tail _ (.tail _ (.head _)))) ?_
            refine tt_iload (pc := 88) dX7_turn_88 (.tail _ (.head _)) ?_
            refine tw_callV (kc := 0) (ks := 0) (mc := 0) (ms := 0) (as := [.inl x181]) (st := []) (pc := 90) wh223 ta0 (by decide) dX7_turn_90 lkX7_200 imX7_tell seX7_tell rfl rfl (by decide) (by decide) (Nat.le_of_ble_eq_true rfl) (g_X7_tellE hN2 hN8 hp0 hp64 wh223 a0 ta0 x181 (by omega) (by omega)) (fun rv h224 qh224 => ?_)
            obtain ⟨wh224, fh224, rfl, ownh224, rrh224⟩ := qh224
            have hfh224 := hfh223.tr (fh224.weak weak_PM_PMt)
            have Xh224 : I1x τ h224 x181.toInt.toNat x185.toInt.toNat := fun r9 h9 na nb => rrh224 r9 na (Xh223 r9 h9 na nb)
            show TT _ _ _ _ _ _ _ _ [] _
            refine tt_aload_n (pc := 93) dX7_turn_93 (.tail _ (.tail _ (.tail _ (.head _)))) ?_
            refine tt_iload (pc := 94) dX7_turn_94 (.head _) ?_
            refine tw_callV (kc := 0) (ks := 0) (mc := 0) (ms := 0) (as := [.inl x185]) (st := []) (pc := 96) wh224 ta0 (by decide) dX7_turn_96 lkX7_200 imX7_tell seX7_tell rfl rfl (by decide) (by decide) (Nat.le_of_ble_eq_true rfl) (g_X7_tellE hN2 hN8 hp0 hp64 wh224 a0 ta0 x185 (by omega) (by omega)) (fun rv h225 qh225 => ?_)
            obtain ⟨wh225, fh225, rfl, ownh225, rrh225⟩ := qh225
            have hfh225 := hfh224.tr (fh225.weak weak_PM_PMt)
            have Jh225 : I1 τ h225 := i1_iff.mpr (fun r9 h9 => by
              by_cases e1 : r9 = x185.toInt.toNat
              · rw [e1]; exact ownh225
              · by_cases e2 : r9 = x181.toInt.toNat
                · rw [e2]; exact rrh225 _ (by rw [← e2]; exact e1) ownh224
                · exact rrh225 r9 e1 (Xh224 r9 h9 e2 e1))
            show TT _ _ _ _ _ _ _ _ [] _
            refine tt_iload_n (pc := 99) dX7_turn_99 (.tail _ (.tail _ (.tail _ (.tail _ (.tail _ (.head _)))))) ?_
            refine tw_if (tgt := 134) (pc := 100) dX7_turn_100 (by decide) (fun (c226 : a2.toInt = 0) => ?_) (fun (c226 : ¬ (a2.toInt = 0)) => ?_)
            · skip
              refine tt_aload_n (pc := 134) dX7_turn_134 (.tail _ (.tail _ (.tail _ (.head _)))) ?_
              refine tt_iload (pc := 135) dX7_turn_135 (.tail _ (.head _)) ?_
              refine tt_iload_n (pc := 137) dX7_turn_137 (.tail _ (.tail _ (.tail _ (.tail _ (.head _))))) ?_
              refine tw_callV (kc := 0) (ks := 0) (mc := 0) (ms := 0) (as := [.inl x181, .inl a1]) (st := []) (pc := 138) wh225 ta0 (by decide) dX7_turn_138 lkX7_209 imX7_sever seX7_sever rfl rfl (by decide) (by decide) (Nat.le_of_ble_eq_true rfl) (g_X7_sever hN2 hN8 hp0 hp64 wh225 a0 ta0 x181 (by omega) (by omega) a1 (by omega) (by omega)) (fun rv h227 qh227 => ?_)
              obtain ⟨wh227, fh227, rfl⟩ := qh227
              have hfh227 := hfh225.tr (fh227.weak weak_PMk_PMt)
              have Jh227 := i1_fr fh227 (by decide) (by decide) (by decide) (by decide) Jh225
              show TT _ _ _ _ _ _ _ _ [] _
              refine tt_aload_n (pc := 141) dX7_turn_141 (.tail _ (.tail _ (.tail _ (.head _)))) ?_
              refine tt_iload (pc := 142) dX7_turn_142 (.head _) ?_
              refine tt_iload_n (pc := 144) dX7_turn_144 (.tail _ (.tail _ (.tail _ (.tail _ (.head _))))) ?_
              refine tw_callV (kc := 0) (ks := 0) (mc := 0) (ms := 0) (as := [.inl x185, .inl a1]) (st := []) (pc := 145) wh227 ta0 (by decide) dX7_turn_145 lkX7_209 imX7_sever seX7_sever rfl rfl (by decide) (by decide) (Nat.le_of_ble_eq_true rfl) (g_X7_sever hN2 hN8 hp0 hp64 wh227 a0 ta0 x185 (by omega) (by omega) a1 (by omega) (by omega)) (fun rv h228 qh228 => ?_)
              obtain ⟨wh228, fh228, rfl⟩ := qh228
              have hfh228 := hfh227.tr (fh228.weak weak_PMk_PMt)
              have Jh228 := i1_fr fh228 (by decide) (by decide) (by decide) (by decide) Jh227
              show TT _ _ _ _ _ _ _ _ [] _
              refine tt_aload_n (pc := 148) dX7_turn_148 (.tail _ (.tail _ (.tail _ (.head _)))) ?_
              refine tt_iload (pc := 149) dX7_turn_149 (.tail _ (.head _)) ?_
              refine tw_callV (kc := 0) (ks := 0) (mc := 0) (ms := 0) (as := [.inl x181]) (st := []) (pc := 151) wh228 ta0 (by decide) dX7_turn_151 lkX7_170 imX7_check seX7_check rfl rfl (by decide) (by decide) (Nat.le_of_ble_eq_true rfl) (g_X7_check hN2 hN8 hp0 hp64 wh228 a0 ta0 x181 (by omega) (by omega)) (fun rv h229 qh229 => ?_)
              obtain ⟨wh229, fh229, rfl⟩ := qh229
              have hfh229 := hfh228.tr (fh229.weak weak_PMk_PMt)
              have Jh229 := i1_fr fh229 (by decide) (by decide) (by decide) (by decide) Jh228
              show TT _ _ _ _ _ _ _ _ [] _
              refine tt_aload_n (pc := 154) dX7_turn_154 (.tail _ (.tail _ (.tail _ (.head _)))) ?_
              refine tt_iload (pc := 155) dX7_turn_155 (.head _) ?_
              refine tw_callV (kc := 0) (ks := 0) (mc := 0) (ms := 0) (as := [.inl x185]) (st := []) (pc := 157) wh229 ta0 (by decide) dX7_turn_157 lkX7_170 imX7_check seX7_check rfl rfl (by decide) (by decide) (Nat.le_of_ble_eq_true rfl) (g_X7_check hN2 hN8 hp0 hp64 wh229 a0 ta0 x185 (by omega) (by omega)) (fun rv h230 qh230 => ?_)
              obtain ⟨wh230, fh230, rfl⟩ := qh230
              have hfh230 := hfh229.tr (fh230.weak weak_PMk_PMt)
              have Jh230 := i1_fr fh230 (by decide) (by decide) (by decide) (by decide) Jh229
              show TT _ _ _ _ _ _ _ _ [] _
              refine tt_stop ?_
              rw [hQ]
              exact Or.inl ⟨dX7_turn_160, rfl, rfl, wh230, hfh230, Jh230, rfl⟩
            · skip
              exfalso
              omega
        · skip
          refine tt_stop ?_
          rw [hQ]
          exact Or.inl ⟨dX7_turn_43, rfl, rfl, wh166, hfh166, Jh166, rfl⟩
