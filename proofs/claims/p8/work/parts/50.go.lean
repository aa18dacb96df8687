abbrev mX7_noted : tM := (RX7, cX7_noted, 7, 6, 153, false)
set_option maxHeartbeats 4000000 in
theorem g_X7_noted {l : Launch} {D : va_G} {N : Nat} {pk : Int} {τ : List Nat} (hN2 : 2 ≤ N) (hN8 : N ≤ 8) (hp0 : 0 ≤ pk) (hp64 : pk ≤ 64) {h : List tC} (hw : WT N pk τ h) (a0 : Nat) (ta0 : τ[a0]? = some 7) (a1 : Int32) (la1 : 0 ≤ a1.toInt) (ua1 : a1.toInt ≤ 7) (a2 : Int32) (la2 : 0 ≤ a2.toInt) (ua2 : a2.toInt ≤ 11) (a3 : Int32) (la3 : 0 ≤ a3.toInt) (ua3 : a3.toInt ≤ 7) (a4 : Int32) (a5 : Int32) (hI : I1 τ h) : TMc l D yX7_noted cX7_noted 7 none 6 153 0 0 [.inr (some a0), .inl a1, .inl a2, .inl a3, .inl a4, .inl a5] h (fun rv h' => WT N pk τ h' ∧ Fr PM τ h h' ∧ I1 τ h' ∧ rv = none) := by
  refine tmc_of false rfl (by decide) (Nat.le_of_ble_eq_true rfl) ?_
  suffices HQ : ∀ Q0, Q0 = tRt cX7_noted none (fun rv h' => WT N pk τ h' ∧ Fr PM τ h h' ∧ I1 τ h' ∧ rv = none) → TT l D mX7_noted Q0 0 0 0 [(0, .inr (some a0)), (1, .inl a1), (2, .inl a2), (3, .inl a3), (4, .inl a4), (5, .inl a5)] [] h from HQ _ rfl
  intro Q0 hQ
  have hf : Fr PM τ h h := Fr.rf
  have ba4 := i_ty a4
  have ba5 := i_ty a5
  refine tt_aload_n (pc := 0) dX7_noted_0 (.head _) ?_
  refine tw_getr (pc := 1) dX7_noted_1 flX7_29 hw ta0 (by decide) rfl (fun f62 q63 ef62 gf62 tq63 => ?_)
  refine tw_bipush (pc := 4) dX7_noted_4 (by decide) (fun x64 ex64 => ?_)
  refine tt_iload_n (pc := 6) dX7_noted_6 (.tail _ (.head _)) ?_
  refine tw_imul (c := 8) (pc := 7) dX7_noted_7 (by omega) (by omega) (fun x65 ex65 => ?_)
  refine tt_iload_n (pc := 8) dX7_noted_8 (.tail _ (.tail _ (.tail _ (.head _)))) ?_
  refine tw_iadd (pc := 9) dX7_noted_9 (by omega) (fun x66 ex66 => ?_)
  refine tw_ild (pc := 10) dX7_noted_10 hw tq63 rfl (by omega) (by omega) (fun f68 x67 ef68 gf68 lx67 ux67 => ?_)
  refine tt_istore (pc := 11) dX7_noted_11 (by decide) ?_
  show TT _ _ _ _ _ _ _ [(6, .inl x67), (0, .inr (some a0)), (1, .inl a1), (2, .inl a2), (3, .inl a3), (4, .inl a4), (5, .inl a5)] _ _
  refine tt_iload_n (pc := 13) dX7_noted_13 (.tail _ (.tail _ (.tail _ (.tail _ (.head _))))) ?_
  refine tt_iload_n (pc := 14) dX7_noted_14 (.tail _ (.tail _ (.head _))) ?_
  refine tw_icmp (tgt := 25) (pc := 15) dX7_noted_15 (by decide) (fun (c69 : a3.toInt = a1.toInt) => ?_) (fun (c69 : ¬ (a3.toInt = a1.toInt)) => ?_)
  · skip
    refine tt_stop ?_
    rw [hQ]
    exact Or.inl ⟨dX7_noted_25, rfl, rfl, hw, hf, hI, rfl⟩
  · skip
    refine tt_iload (pc := 18) dX7_noted_18 (.tail _ (.tail _ (.tail _ (.tail _ (.tail _ (.head _)))))) ?_
    refine tt_iload (pc := 20) dX7_noted_20 (.head _) ?_
    refine tw_icmp (tgt := 26) (pc := 22) dX7_noted_22 (by decide) (fun (c70 : a4.toInt ≠ x67.toInt) => ?_) (fun (c70 : ¬ (a4.toInt ≠ x67.toInt)) => ?_)
    · skip
      refine tt_iload (pc := 26) dX7_noted_26 (.tail _ (.tail _ (.tail _ (.tail _ (.tail _ (.head _)))))) ?_
      refine tt_iload (pc := 28) dX7_noted_28 (.head _) ?_
      refine tw_icmp (tgt := 50) (pc := 30) dX7_noted_30 (by decide) (fun (c71 : x67.toInt ≤ a4.toInt) => ?_) (fun (c71 : ¬ (x67.toInt ≤ a4.toInt)) => ?_)
      · skip
        refine tt_aload_n (pc := 50) dX7_noted_50 (.tail _ (.head _)) ?_
        refine tt_get (pc := 51) dX7_noted_51 flX7_29 ef62 gf62 ?_
        refine tw_bipush (pc := 54) dX7_noted_54 (by decide) (fun x72 ex72 => ?_)
        refine tt_iload_n (pc := 56) dX7_noted_56 (.tail _ (.tail _ (.head _))) ?_
        refine tw_imul (c := 8) (pc := 57) dX7_noted_57 (by omega) (by omega) (fun x73 ex73 => ?_)
        refine tt_iload_n (pc := 58) dX7_noted_58 (.tail _ (.tail _ (.tail _ (.tail _ (.head _))))) ?_
        refine tw_iadd (pc := 59) dX7_noted_59 (by omega) (fun x74 ex74 => ?_)
        refine tt_iload (pc := 60) dX7_noted_60 (.tail _ (.tail _ (.tail _ (.tail _ (.tail _ (.head _)))))) ?_
        refine tw_ist (P := (PEX 38)) (pc := 62) dX7_noted_62 hw tq63 rfl (by omega) (by omega) (by omega) (by omega) (by decide) (fun f75 h76 eh76 gh76 kh76 wh76 fh76 => ?_)
        have hfh76 := hf.tr (fh76.weak (weak_PEX (fun _ => rfl)))
        have Jh76 := i1_fr fh76 (by decide) (by decide) (by decide) (by decide) hI
        obtain ⟨f77, E78, G79⟩ := fr_fld fh76 ta0 (by decide) ef62 gf62
        refine tt_aload_n (pc := 63) dX7_noted_63 (.tail _ (.head _)) ?_
        refine tw_getr (pc := 64) dX7_noted_64 flX7_32 wh76 ta0 (by decide) rfl (fun f80 q81 ef80 gf80 tq81 => ?_)
        refine tw_bipush (pc := 67) dX7_noted_67 (by decide) (fun x82 ex82 => ?_)
        refine tt_iload_n (pc := 69) dX7_noted_69 (.tail _ (.tail _ (.head _))) ?_
        refine tw_imul (c := 8) (pc := 70) dX7_noted_70 (by omega) (by omega) (fun x83 ex83 => ?_)
        refine tt_iload_n (pc := 71) dX7_noted_71 (.tail _ (.tail _ (.tail _ (.tail _ (.head _))))) ?_
        refine tw_iadd (pc := 72) dX7_noted_72 (by omega) (fun x84 ex84 => ?_)
        refine tt_iload (pc := 73) dX7_noted_73 (.tail _ (.tail _ (.tail _ (.tail _ (.tail _ (.tail _ (.head _))))))) ?_
        refine tw_sipush (pc := 75) dX7_noted_75 (by decide) (fun x85 ex85 => ?_)
        refine tt_iand (pc := 78) dX7_noted_78 ?_
        refine tw_any (fun x86 => ?_)
        have bx86 := i_ty x86
        refine tw_ist (P := (PEX 39)) (pc := 79) dX7_noted_79 wh76 tq81 rfl (by omega) (by omega) (by omega) (by omega) (by decide) (fun f87 h88 eh88 gh88 kh88 wh88 fh88 => ?_)
        have hfh88 := hfh76.tr (fh88.weak (weak_PEX (fun _ => rfl)))
        have Jh88 := i1_set hw.2.2.2 fh88 tq81 eh88 gh88 (by intro r9 h9; show x84.toInt.toNat ≠ _; omega) Jh76
        obtain ⟨f89, E90, G91⟩ := fr_fld fh88 ta0 (by decide) E78 G79
        have E92 := fr_arrI fh88 tq63 (by decide) gh76
        obtain ⟨f93, E94, G95⟩ := fr_fld fh88 ta0 (by decide) ef80 gf80
        refine tt_aload_n (pc := 80) dX7_noted_80 (.tail _ (.head _)) ?_
        refine tw_getr (pc := 81) dX7_noted_81 flX7_35 wh88 ta0 (by decide) rfl (fun f96 q97 ef96 gf96 tq97 => ?_)
        refine tw_bipush (pc := 84) dX7_noted_84 (by decide) (fun x98 ex98 => ?_)
        refine tt_iload_n (pc := 86) dX7_noted_86 (.tail _ (.tail _ (.head _))) ?_
        refine tw_imul (c := 8) (pc := 87) dX7_noted_87 (by omega) (by omega) (fun x99 ex99 => ?_)
        refine tt_iload_n (pc := 88) dX7_noted_88 (.tail _ (.tail _ (.tail _ (.tail _ (.head _))))) ?_
        refine tw_iadd (pc := 89) dX7_noted_89 (by omega) (fun x100 ex100 => ?_)
        refine tt_iload (pc := 90) dX7_noted_90 (.tail _ (.tail _ (.tail _ (.tail _ (.tail _ (.tail _ (.head _))))))) ?_
        refine tw_bipush (pc := 92) dX7_noted_92 (by decide) (fun x101 ex101 => ?_)
        refine tt_ishr (pc := 94) dX7_noted_94 ?_
        refine tw_any (fun x102 => ?_)
        have bx102 := i_ty x102
        refine tw_ist (P := (PEX 40)) (pc := 95) dX7_noted_95 wh88 tq97 rfl (by omega) (by omega) (by omega) (by omega) (by decide) (fun f103 h104 eh104 gh104 kh104 wh104 fh104 => ?_)
        have hfh104 := hfh88.tr (fh104.weak (weak_PEX (fun _ => rfl)))
        have Jh104 := i1_fr fh104 (by decide) (by decide) (by decide) (by decide) Jh88
        obtain ⟨f105, E106, G107⟩ := fr_fld fh104 ta0 (by decide) E90 G91
        have E108 := fr_arrI fh104 tq63 (by decide) E92
        obtain ⟨f109, E110, G111⟩ := fr_fld fh104 ta0 (by decide) E94 G95
        have E112 := fr_arrI fh104 tq81 (by decide) gh88
        obtain ⟨f113, E114, G115⟩ := fr_fld fh104 ta0 (by decide) ef96 gf96
        refine tt_aload_n (pc := 96) dX7_noted_96 (.tail _ (.head _)) ?_
        refine tt_iload_n (pc := 97) dX7_noted_97 (.tail _ (.tail _ (.head _))) ?_
        refine tt_iload_n (pc := 98) dX7_noted_98 (.tail _ (.tail _ (.tail _ (.head _)))) ?_
        refine tw_iconst (pc := 99) dX7_noted_99 (by decide) (fun x116 ex116 => ?_)
        refine tt_iload_n (pc := 100) dX7_noted_100 (.tail _ (.tail _ (.tail _ (.tail _ (.head _))))) ?_
        refine tt_iload (pc := 101) dX7_noted_101 (.tail _ (.tail _ (.tail _ (.tail _ (.tail _ (.head _)))))) ?_
        refine tt_iload (pc := 103) dX7_noted_103 (.tail _ (.tail _ (.tail _ (.tail _ (.tail _ (.tail _ (.head _))))))) ?_
        refine tw_callV (kc := 0) (ks := 0) (mc := 0) (ms := 0) (as := [.inl a1, .inl a2, .inl x116, .inl a3, .inl a4, .inl a5]) (st := []) (pc := 105) wh104 ta0 (by decide) dX7_noted_105 lkX7_121 imX7_sendAll seX7_sendAll rfl rfl (by decide) (by decide) (Nat.le_of_ble_eq_true rfl) (g_X7_sendAllA hN2 hN8 hp0 hp64 wh104 a0 ta0 a1 (by omega) (by omega) a2 x116 (by omega) (by omega) a3 (by omega) (by omega) a4 a5) (fun rv h117 qh117 => ?_)
        obtain ⟨wh117, fh117, rfl⟩ := qh117
        have hfh117 := hfh104.tr (fh117.weak weak_PMk_PM)
        have Jh117 := i1_fr fh117 (by decide) (by decide) (by decide) (by decide) Jh104
        show TT _ _ _ _ _ _ _ _ [] _
        refine tt_aload_n (pc := 108) dX7_noted_108 (.tail _ (.head _)) ?_
        refine tt_iload_n (pc := 109) dX7_noted_109 (.tail _ (.tail _ (.head _))) ?_
        refine tw_callV (kc := 0) (ks := 0) (mc := 0) (ms := 0) (as := [.inl a1]) (st := []) (pc := 110) wh117 ta0 (by decide) dX7_noted_110 lkX7_170 imX7_check seX7_check rfl rfl (by decide) (by decide) (Nat.le_of_ble_eq_true rfl) (g_X7_check hN2 hN8 hp0 hp64 wh117 a0 ta0 a1 (by omega) (by omega)) (fun rv h118 qh118 => ?_)
        obtain ⟨wh118, fh118, rfl⟩ := qh118
        have hfh118 := hfh117.tr (fh118.weak weak_PMk_PM)
        have Jh118 := i1_fr fh118 (by decide) (by decide) (by decide) (by decide) Jh117
        show TT _ _ _ _ _ _ _ _ [] _
        refine tt_stop ?_
        rw [hQ]
        exact Or.inl ⟨dX7_noted_113, rfl, rfl, wh118, hfh118, Jh118, rfl⟩
      · skip
        refine tt_aload_n (pc := 33) dX7_noted_33 (.tail _ (.head _)) ?_
        refine tt_iload_n (pc := 34) dX7_noted_34 (.tail _ (.tail _ (.head _))) ?_
        refine tt_iload_n (pc := 35) dX7_noted_35 (.tail _ (.tail _ (.tail _ (.head _)))) ?_
        refine tw_iconst (pc := 36) dX7_noted_36 (by decide) (fun x119 ex119 => ?_)
        refine tt_iload_n (pc := 37) dX7_noted_37 (.tail _ (.tail _ (.tail _ (.tail _ (.head _))))) ?_
        refine tt_iload (pc := 38) dX7_noted_38 (.head _) ?_
        refine tt_aload_n (pc := 40) dX7_noted_40 (.tail _ (.head _)) ?_
        refine tt_iload_n (pc := 41) dX7_noted_41 (.tail _ (.tail _ (.head _))) ?_
        refine tt_iload_n (pc := 42) dX7_noted_42 (.tail _ (.tail _ (.tail _ (.tail _ (.head _))))) ?_
        refine tw_callV (kc := 0) (ks := 0) (mc := 0) (ms := 0) (as := [.inl a1, .inl a3]) (st := [.inl x67, .inl a3, .inl x119, .inl a2, .inl a1, .inr (some a0)]) (pc := 43) hw ta0 (by decide) dX7_noted_43 lkX7_117 imX7_bodyOf seX7_bodyOf rfl rfl (by decide) (by decide) (Nat.le_of_ble_eq_true rfl) (g_X7_bodyOf hN2 hN8 hp0 hp64 hw a0 ta0 a1 (by omega) (by omega) a3 (by omega) (by omega)) (fun rv h120 qh120 => ?_)
        obtain ⟨rfl, x121, rfl, lx121, ux121⟩ := qh120
        show TT _ _ _ _ _ _ _ _ [.inl x121, .inl x67, .inl a3, .inl x119, .inl a2, .inl a1, .inr (some a0)] _
        refine tw_callV (kc := 0) (ks := 0) (mc := 0) (ms := 0) (as := [.inl a1, .inl a2, .inl x119, .inl a3, .inl x67, .inl x121]) (st := []) (pc := 46) hw ta0 (by decide) dX7_noted_46 lkX7_113 imX7_send seX7_send rfl rfl (by decide) (by decide) (Nat.le_of_ble_eq_true rfl) (g_X7_sendA hN2 hN8 hp0 hp64 hw a0 ta0 a1 (by omega) (by omega) a2 (by omega) (by omega) x119 (by omega) (by omega) a3 (by omega) (by omega) x67 x121) (fun rv h122 qh122 => ?_)
        obtain ⟨wh122, fh122, rfl⟩ := qh122
        have hfh122 := hf.tr (fh122.weak weak_PMk_PM)
        have Jh122 := i1_fr fh122 (by decide) (by decide) (by decide) (by decide) hI
        show TT _ _ _ _ _ _ _ _ [] _
        refine tt_stop ?_
        rw [hQ]
        exact Or.inl ⟨dX7_noted_49, rfl, rfl, wh122, hfh122, Jh122, rfl⟩
    · skip
      refine tt_stop ?_
      rw [hQ]
      exact Or.inl ⟨dX7_noted_25, rfl, rfl, hw, hf, hI, rfl⟩
abbrev mX7_go : tM := (RX7, cX7_go, 8, 2, 47, false)
set_option maxHeartbeats 4000000 in
theorem g_X7_go {l : Launch} {D : va_G} {N : Nat} {pk : Int} {τ : List Nat} (hN2 : 2 ≤ N) (hN8 : N ≤ 8) (hp0 : 0 ≤ pk) (hp64 : pk ≤ 64) {h : List tC} (hw : WT N pk τ h) (a0 : Nat) (ta0 : τ[a0]? = some 7) (a1 : Int32) (la1 : 0 ≤ a1.toInt) (ua1 : a1.toInt ≤ 63) (a2 : Int32) (la2 : 0 ≤ a2.toInt) (ua2 : a2.toInt ≤ (N : Int) - 1) (a3 : Int32) (la3 : -1 ≤ a3.toInt) (ua3 : a3.toInt ≤ 79) (hI : I1 τ h) : TMc l D yX7_go cX7_go 8 none 2 47 0 0 [.inr (some a0), .inl a1, .inl a2, .inl a3] h (fun rv h' => WT N pk τ h' ∧ Fr PMk τ h h' ∧ rv = none) := by
  refine tmc_of false rfl (by decide) (Nat.le_of_ble_eq_true rfl) ?_
  suffices HQ : ∀ Q0, Q0 = tRt cX7_go none (fun rv h' => WT N pk τ h' ∧ Fr PMk τ h h' ∧ rv = none) → TT l D mX7_go Q0 0 0 0 [(0, .inr (some a0)), (1, .inl a1), (2, .inl a2), (3, .inl a3)] [] h from HQ _ rfl
  intro Q0 hQ
  have hf : Fr PMk τ h h := Fr.rf
  have B27 : ∀ (n27 : Nat) (hb : List tC) (hwb : WT N pk τ hb) (hfb : Fr PMk τ h hb) (x2745 : Int32) (lx2745 : -1 ≤ x2745.toInt) (ux2745 : x2745.toInt ≤ 7) (x2746 : Int32) (lx2746 : 0 ≤ x2746.toInt) (ux2746 : x2746.toInt ≤ 8) (hbp : a3.toInt = -1 → 0 ≤ x2745.toInt) (hIb : I1 τ hb), 8 - x2746.toInt < n27 → TT l D mX7_go Q0 0 0 27 [(0, .inr (some a0)), (1, .inl a1), (2, .inl a2), (3, .inl a3), (4, .inl x2745), (5, .inl x2746)] [] hb := by
    intro n27
    induction n27 with
    | zero =>
      intro hb hwb hfb x2745 lx2745 ux2745 x2746 lx2746 ux2746 hbp hIb hn27
      exfalso
      omega
    | succ n27 ih27 =>
      intro hb hwb hfb x2745 lx2745 ux2745 x2746 lx2746 ux2746 hbp hIb hn27
      refine tt_iload (pc := 27) dX7_go_27 (.tail _ (.tail _ (.tail _ (.tail _ (.tail _ (.head _)))))) ?_
      refine tw_bipush (pc := 29) dX7_go_29 (by decide) (fun x2747 ex2747 => ?_)
      refine tw_icmp (tgt := 71) (pc := 31) dX7_go_31 (by decide) (fun (c2748 : x2747.toInt ≤ x2746.toInt) => ?_) (fun (c2748 : ¬ (x2747.toInt ≤ x2746.toInt)) => ?_)
      · skip
        refine tt_aload_n (pc := 71) dX7_go_71 (.head _) ?_
        refine tt_iload_n (pc := 72) dX7_go_72 (.tail _ (.tail _ (.head _))) ?_
        refine tw_callV (kc := 0) (ks := 0) (mc := 0) (ms := 0) (as := [.inl a2]) (st := []) (pc := 73) hwb ta0 (by decide) dX7_go_73 lkX7_163 imX7_measure seX7_measure rfl rfl (by decide) (by decide) (Nat.le_of_ble_eq_true rfl) (g_X7_measureE hN2 hN8 hp0 hp64 hwb a0 ta0 a2 (by omega) (by omega)) (fun rv h2749 qh2749 => ?_)
        obtain ⟨wh2749, fh2749, rfl, Fh2749, hFh2749, iFh2749, jFh2749, kFh2749⟩ := qh2749
        have hfh2749 := hfb.tr (fh2749.weak (weak_PEX (fun _ => rfl)))
        have Jh2749 := i1_fr fh2749 (by decide) (by decide) (by decide) (by decide) hIb
        show TT _ _ _ _ _ _ _ _ [] _
        refine tt_iload (pc := 76) dX7_go_76 (.tail _ (.tail _ (.tail _ (.tail _ (.head _))))) ?_
        refine tw_iconst (pc := 78) dX7_go_78 (by decide) (fun x2750 ex2750 => ?_)
        refine tw_icmp (tgt := 86) (pc := 79) dX7_go_79 (by decide) (fun (c2751 : x2745.toInt ≠ x2750.toInt) => ?_) (fun (c2751 : ¬ (x2745.toInt ≠ x2750.toInt)) => ?_)
        · skip
          refine tt_aload_n (pc := 86) dX7_go_86 (.head _) ?_
          refine tt_iload_n (pc := 87) dX7_go_87 (.tail _ (.tail _ (.head _))) ?_
          refine tt_iload (pc := 88) dX7_go_88 (.tail _ (.tail _ (.tail _ (.tail _ (.head _))))) ?_
          refine tw_callV (kc := 0) (ks := 0) (mc := 0) (ms := 0) (as := [.inl a2, .inl x2745]) (st := []) (pc := 90) wh2749 ta0 (by decide) dX7_go_90 lkX7_139 imX7_egress seX7_egress rfl rfl (by decide) (by decide) (Nat.le_of_ble_eq_true rfl) (g_X7_egressE hN2 hN8 hp0 hp64 wh2749 a0 ta0 a2 (by omega) (by omega) x2745 hFh2749) (fun rv h2752 qh2752 => ?_)
          obtain ⟨rfl, x2754, rfl, lx2754, ux2754, Dx2754⟩ := qh2752
          show TT _ _ _ _ _ _ _ _ [.inl x2754] _
          refine tt_istore (pc := 93) dX7_go_93 (by decide) ?_
          show TT _ _ _ _ _ _ _ [(5, .inl x2754), (0, .inr (some a0)), (1, .inl a1), (2, .inl a2), (3, .inl a3), (4, .inl x2745)] _ _
          refine tt_iload_n (pc := 95) dX7_go_95 (.tail _ (.tail _ (.tail _ (.tail _ (.head _))))) ?_
          refine tw_iconst (pc := 96) dX7_go_96 (by decide) (fun x2755 ex2755 => ?_)
          refine tw_icmp (tgt := 121) (pc := 97) dX7_go_97 (by decide) (fun (c2756 : a3.toInt ≠ x2755.toInt) => ?_) (fun (c2756 : ¬ (a3.toInt ≠ x2755.toInt)) => ?_)
          · skip
            refine tt_iload_n (pc := 121) dX7_go_121 (.tail _ (.tail _ (.tail _ (.tail _ (.head _))))) ?_
            refine tw_iconst (pc := 122) dX7_go_122 (by decide) (fun x2757 ex2757 => ?_)
            refine tw_icmp (tgt := 142) (pc := 123) dX7_go_123 (by decide) (fun (c2758 : a3.toInt = x2757.toInt) => ?_) (fun (c2758 : ¬ (a3.toInt = x2757.toInt)) => ?_)
            · skip
              exfalso
              omega
            · skip
              refine tt_iload (pc := 126) dX7_go_126 (.tail _ (.tail _ (.tail _ (.tail _ (.tail _ (.head _)))))) ?_
              refine tw_iconst (pc := 128) dX7_go_128 (by decide) (fun x2759 ex2759 => ?_)
              refine tw_icmp (tgt := 142) (pc := 129) dX7_go_129 (by decide) (fun (c2760 : x2745.toInt ≠ x2759.toInt) => ?_) (fun (c2760 : ¬ (x2745.toInt ≠ x2759.toInt)) => ?_)
              · skip
                refine tt_iload (pc := 142) dX7_go_142 (.head _) ?_
                refine tw_iconst (pc := 144) dX7_go_144 (by decide) (fun x2761 ex2761 => ?_)
                refine tw_icmp (tgt := 154) (pc := 145) dX7_go_145 (by decide) (fun (c2762 : x2754.toInt = x2761.toInt) => ?_) (fun (c2762 : ¬ (x2754.toInt = x2761.toInt)) => ?_)
                · skip
                  refine tt_aload_n (pc := 154) dX7_go_154 (.tail _ (.head _)) ?_
                  refine tw_getr (pc := 155) dX7_go_155 flX7_83 wh2749 ta0 (by decide) rfl (fun f2763 q2764 ef2763 gf2763 tq2764 => ?_)
                  refine tt_iload_n (pc := 158) dX7_go_158 (.tail _ (.tail _ (.head _))) ?_
                  refine tw_iconst (pc := 159) dX7_go_159 (by decide) (fun x2765 ex2765 => ?_)
                  refine tw_ist (P := (PEX 58)) (pc := 160) dX7_go_160 wh2749 tq2764 rfl (by omega) (by omega) (by omega) (by omega) (by decide) (fun f2766 h2767 eh2767 gh2767 kh2767 wh2767 fh2767 => ?_)
                  have hfh2767 := hfh2749.tr (fh2767.weak (weak_PEX (fun _ => rfl)))
                  have Jh2767 := i1_fr fh2767 (by decide) (by decide) (by decide) (by decide) Jh2749
                  obtain ⟨f2768, E2769, G2770⟩ := fr_fld fh2767 ta0 (by decide) ef2763 gf2763
                  refine tt_goto (tgt := 274) (pc := 161) dX7_go_161 (by decide) ?_
                  refine tt_stop ?_
                  rw [hQ]
                  exact Or.inl ⟨dX7_go_274, rfl, rfl, wh2767, hfh2767, rfl⟩
                · skip
                  refine tt_iload (pc := 148) dX7_go_148 (.head _) ?_
                  refine tt_iload_n (pc := 150) dX7_go_150 (.tail _ (.tail _ (.tail _ (.head _)))) ?_
                  refine tw_icmp (tgt := 164) (pc := 151) dX7_go_151 (by decide) (fun (c2771 : x2754.toInt ≠ a2.toInt) => ?_) (fun (c2771 : ¬ (x2754.toInt ≠ a2.toInt)) => ?_)
                  · skip
                    refine tt_aload_n (pc := 164) dX7_go_164 (.tail _ (.head _)) ?_
                    refine tw_getr (pc := 165) dX7_go_165 flX7_77 wh2749 ta0 (by decide) rfl (fun f2772 q2773 ef2772 gf2772 tq2773 => ?_)
                    refine tt_iload_n (pc := 168) dX7_go_168 (.tail _ (.tail _ (.head _))) ?_
                    refine tw_ild (pc := 169) dX7_go_169 wh2749 tq2773 rfl (by omega) (by omega) (fun f2775 x2774 ef2775 gf2775 lx2774 ux2774 => ?_)
                    refine tw_if (tgt := 183) (pc := 170) dX7_go_170 (by decide) (fun (c2776 : x2774.toInt ≠ 0) => ?_) (fun (c2776 : ¬ (x2774.toInt ≠ 0)) => ?_)
                    · skip
                      refine tt_aload_n (pc := 183) dX7_go_183 (.tail _ (.head _)) ?_
                      refine tt_iload_n (pc := 184) dX7_go_184 (.tail _ (.tail _ (.tail _ (.head _)))) ?_
                      refine tt_iload (pc := 185) dX7_go_185 (.head _) ?_
                      obtain ⟨l0, hH⟩ := hopw_of hwb hN2 hN8 hIb ta0 iFh2749 jFh2749 kFh2749 fh2749 (r := a2.toInt.toNat) (e := x2754.toInt.toNat) (by omega) (by omega) (by omega) (Dx2754 (by omega))
                      refine tw_callV (kc := 0) (ks := 0) (mc := 0) (ms := 0) (as := [.inl a2, .inl x2754]) (st := []) (pc := 187) wh2749 ta0 (by decide) dX7_go_187 lkX7_142 imX7_hop seX7_hop rfl rfl (by decide) (by decide) (Nat.le_of_ble_eq_true rfl) (g_X7_hopW hN2 hN8 hp0 hp64 wh2749 a0 ta0 a2 (by omega) (by omega) x2754 (by omega) (by omega) hFh2749 iFh2749.1 (by omega) (Dx2754 (by omega)) hH) (fun rv h2777 qh2777 => ?_)
                      obtain ⟨rfl, x2778, rfl, lx2778, ux2778⟩ := qh2777
                      show TT _ _ _ _ _ _ _ _ [.inl x2778] _
                      refine tt_istore (pc := 190) dX7_go_190 (by decide) ?_
                      show TT _ _ _ _ _ _ _ [(6, .inl x2778), (5, .inl x2754), (0, .inr (some a0)), (1, .inl a1), (2, .inl a2), (3, .inl a3), (4, .inl x2745)] _ _
                      refine tt_aload_n (pc := 192) dX7_go_192 (.tail _ (.tail _ (.head _))) ?_
                      refine tw_getr (pc := 193) dX7_go_193 flX7_56 wh2749 ta0 (by decide) rfl (fun f2779 q2780 ef2779 gf2779 tq2780 => ?_)
                      refine tt_aload_n (pc := 196) dX7_go_196 (.tail _ (.tail _ (.head _))) ?_
                      refine tt_iload_n (pc := 197) dX7_go_197 (.tail _ (.tail _ (.tail _ (.tail _ (.head _))))) ?_
                      refine tt_iload (pc := 198) dX7_go_198 (.tail _ (.tail _ (.tail _ (.tail _ (.tail _ (.tail _ (.head _))))))) ?_
                      refine tt_iload (pc := 200) dX7_go_200 (.head _) ?_
                      refine tw_callV (kc := 0) (ks := 0) (mc := 0) (ms := 0) (as := [.inl a2, .inl x2745, .inl x2778]) (st := [.inr (some q2780)]) (pc := 202) wh2749 ta0 (by decide) dX7_go_202 lkX7_145 imX7_slot seX7_slot rfl rfl (by decide) (by decide) (Nat.le_of_ble_eq_true rfl) (g_X7_slot hN2 hN8 hp0 hp64 wh2749 a0 ta0 a2 (by omega) (by omega) x2745 (by omega) (by omega) x2778 (by omega) (by omega)) (fun rv h2781 qh2781 => ?_)
                      obtain ⟨rfl, x2782, rfl, lx2782, ux2782⟩ := qh2781
                      show TT _ _ _ _ _ _ _ _ [.inl x2782, .inr (some q2780)] _
                      refine tw_ild (pc := 205) dX7_go_205 wh2749 tq2780 rfl (by omega) (by omega) (fun f2784 x2783 ef2784 gf2784 lx2783 ux2783 => ?_)
                      refine tw_bipush (pc := 206) dX7_go_206 (by decide) (fun x2785 ex2785 => ?_)
                      refine tw_icmp (tgt := 215) (pc := 208) dX7_go_208 (by decide) (fun (c2786 : x2785.toInt ≤ x2783.toInt) => ?_) (fun (c2786 : ¬ (x2785.toInt ≤ x2783.toInt)) => ?_)
                      · skip
                        refine tt_aload_n (pc := 215) dX7_go_215 (.tail _ (.tail _ (.head _))) ?_
                        refine tt_get (pc := 216) dX7_go_216 flX7_56 ef2779 gf2779 ?_
                        refine tt_aload_n (pc := 219) dX7_go_219 (.tail _ (.tail _ (.head _))) ?_
                        refine tt_iload_n (pc := 220) dX7_go_220 (.tail _ (.tail _ (.tail _ (.tail _ (.head _))))) ?_
                        refine tt_iload (pc := 221) dX7_go_221 (.tail _ (.tail _ (.tail _ (.tail _ (.tail _ (.tail _ (.head _))))))) ?_
                        refine tt_iload (pc := 223) dX7_go_223 (.head _) ?_
                        refine tw_callV (kc := 0) (ks := 0) (mc := 0) (ms := 0) (as := [.inl a2, .inl x2745, .inl x2778]) (st := [.inr (some q2780)]) (pc := 225) wh2749 ta0 (by decide) dX7_go_225 lkX7_145 imX7_slot seX7_slot rfl rfl (by decide) (by decide) (Nat.le_of_ble_eq_true rfl) (g_X7_slot hN2 hN8 hp0 hp64 wh2749 a0 ta0 a2 (by omega) (by omega) x2745 (by omega) (by omega) x2778 (by omega) (by omega)) (fun rv h2787 qh2787 => ?_)
                        obtain ⟨rfl, x2788, rfl, lx2788, ux2788⟩ := qh2787
                        show TT _ _ _ _ _ _ _ _ [.inl x2788, .inr (some q2780)] _
                        refine tw_ild (pc := 228) dX7_go_228 wh2749 tq2780 rfl (by omega) (by omega) (fun f2790 x2789 ef2790 gf2790 lx2789 ux2789 => ?_)
                        refine tt_istore (pc := 229) dX7_go_229 (by decide) ?_
                        show TT _ _ _ _ _ _ _ [(7, .inl x2789), (6, .inl x2778), (5, .inl x2754), (0, .inr (some a0)), (1, .inl a1), (2, .inl a2), (3, .inl a3), (4, .inl x2745)] _ _
                        refine tt_aload_n (pc := 231) dX7_go_231 (.tail _ (.tail _ (.tail _ (.head _)))) ?_
                        refine tt_get (pc := 232) dX7_go_232 flX7_77 ef2772 gf2772 ?_
                        refine tt_iload_n (pc := 235) dX7_go_235 (.tail _ (.tail _ (.tail _ (.tail _ (.head _))))) ?_
                        refine tt_dup2 (pc := 236) dX7_go_236 ?_
                        refine tt_iald (pc := 237) dX7_go_237 ef2775 (i_nn (by omega)) gf2775 ?_
                        refine tw_iconst (pc := 238) dX7_go_238 (by decide) (fun x2791 ex2791 => ?_)
                        refine tt_isub (pc := 239) dX7_go_239 ?_
                        refine tw_any (fun x2792 => ?_)
                        have bx2792 := i_ty x2792
                        refine tw_ist (P := (PEX 56)) (pc := 240) dX7_go_240 wh2749 tq2773 rfl (by omega) (by omega) (by omega) (by omega) (by decide) (fun f2793 h2794 eh2794 gh2794 kh2794 wh2794 fh2794 => ?_)
                        have hfh2794 := hfh2749.tr (fh2794.weak (weak_PEX (fun _ => rfl)))
                        have Jh2794 := i1_fr fh2794 (by decide) (by decide) (by decide) (by decide) Jh2749
                        obtain ⟨f2795, E2796, G2797⟩ := fr_fld fh2794 ta0 (by decide) ef2772 gf2772
                        obtain ⟨f2798, E2799, G2800⟩ := fr_fld fh2794 ta0 (by decide) ef2779 gf2779
                        have E2801 := fr_arrI fh2794 tq2780 (by decide) ef2784
                        have E2802 := fr_arrI fh2794 tq2780 (by decide) ef2790
                        refine tt_aload_n (pc := 241) dX7_go_241 (.tail _ (.tail _ (.tail _ (.head _)))) ?_
                        refine tt_iload_n (pc := 242) dX7_go_242 (.tail _ (.tail _ (.tail _ (.tail _ (.tail _ (.head _)))))) ?_
                        refine tt_iload (pc := 243) dX7_go_243 (.tail _ (.head _)) ?_
                        refine tw_iconst (pc := 245) dX7_go_245 (by decide) (fun x2803 ex2803 => ?_)
                        refine tt_iload_n (pc := 246) dX7_go_246 (.tail _ (.tail _ (.tail _ (.tail _ (.head _))))) ?_
                        refine tt_iload (pc := 247) dX7_go_247 (.head _) ?_
                        refine tw_iconst (pc := 249) dX7_go_249 (by decide) (fun x2804 ex2804 => ?_)
                        refine tw_callV (kc := 0) (ks := 0) (mc := 0) (ms := 0) (as := [.inl a2, .inl x2778, .inl x2803, .inl a1, .inl x2789, .inl x2804]) (st := []) (pc := 250) wh2794 ta0 (by decide) dX7_go_250 lkX7_103 imX7_put seX7_put rfl rfl (by decide) (by decide) (Nat.le_of_ble_eq_true rfl) (g_X7_putC hN2 hN8 hp0 hp64 wh2794 a0 ta0 a2 x2778 (by omega) (by omega) x2803 (by omega) (by omega) a1 (by omega) (by omega) x2789 (by omega) (by omega) x2804) (fun rv h2805 qh2805 => ?_)
                        obtain ⟨wh2805, fh2805, x2806, rfl, lx2806, ux2806⟩ := qh2805
                        have hfh2805 := hfh2794.tr (fh2805.weak weak_PMq_PMk)
                        have Jh2805 := i1_fr fh2805 (by decide) (by decide) (by decide) (by decide) Jh2794
                        show TT _ _ _ _ _ _ _ _ [.inl x2806] _
                        refine tw_if (tgt := 267) (pc := 253) dX7_go_253 (by decide) (fun (c2807 : x2806.toInt = 0) => ?_) (fun (c2807 : ¬ (x2806.toInt = 0)) => ?_)
                        · skip
                          refine tt_aload_n (pc := 267) dX7_go_267 (.tail _ (.tail _ (.tail _ (.head _)))) ?_
                          refine tw_getr (pc := 268) dX7_go_268 flX7_83 wh2805 ta0 (by decide) rfl (fun f2808 q2809 ef2808 gf2808 tq2809 => ?_)
                          refine tt_iload_n (pc := 271) dX7_go_271 (.tail _ (.tail _ (.tail _ (.tail _ (.head _))))) ?_
                          refine tw_iconst (pc := 272) dX7_go_272 (by decide) (fun x2810 ex2810 => ?_)
                          refine tw_ist (P := (PEX 58)) (pc := 273) dX7_go_273 wh2805 tq2809 rfl (by omega) (by omega) (by omega) (by omega) (by decide) (fun f2811 h2812 eh2812 gh2812 kh2812 wh2812 fh2812 => ?_)
                          have hfh2812 := hfh2805.tr (fh2812.weak (weak_PEX (fun _ => rfl)))
                          have Jh2812 := i1_fr fh2812 (by decide) (by decide) (by decide) (by decide) Jh2805
                          obtain ⟨f2813, E2814, G2815⟩ := fr_fld fh2812 ta0 (by decide) ef2808 gf2808
                          refine tt_stop ?_
                          rw [hQ]
                          exact Or.inl ⟨dX7_go_274, rfl, rfl, wh2812, hfh2812, rfl⟩
                        · skip
                          refine tt_aload_n (pc := 256) dX7_go_256 (.tail _ (.tail _ (.tail _ (.head _)))) ?_
                          refine tw_getr (pc := 257) dX7_go_257 flX7_86 wh2805 ta0 (by decide) rfl (fun f2816 q2817 ef2816 gf2816 tq2817 => ?_)
                          refine tt_iload_n (pc := 260) dX7_go_260 (.tail _ (.tail _ (.tail _ (.tail _ (.head _))))) ?_
                          refine tt_iload (pc := 261) dX7_go_261 (.head _) ?_
                          refine tw_ist (P := (PEX 59)) (pc := 263) dX7_go_263 wh2805 tq2817 rfl (by omega) (by omega) (by omega) (by omega) (by decide) (fun f2818 h2819 eh2819 gh2819 kh2819 wh2819 fh2819 => ?_)
                          have hfh2819 := hfh2805.tr (fh2819.weak (weak_PEX (fun _ => rfl)))
                          have Jh2819 := i1_fr fh2819 (by decide) (by decide) (by decide) (by decide) Jh2805
                          obtain ⟨f2820, E2821, G2822⟩ := fr_fld fh2819 ta0 (by decide) ef2816 gf2816
                          refine tt_goto (tgt := 274) (pc := 264) dX7_go_264 (by decide) ?_
                          refine tt_stop ?_
                          rw [hQ]
                          exact Or.inl ⟨dX7_go_274, rfl, rfl, wh2819, hfh2819, rfl⟩
                      · skip
                        refine tw_iconst (pc := 211) dX7_go_211 (by decide) (fun x2823 ex2823 => ?_)
                        refine tt_goto (tgt := 229) (pc := 212) dX7_go_212 (by decide) ?_
                        refine tt_istore (pc := 229) dX7_go_229 (by decide) ?_
                        show TT _ _ _ _ _ _ _ [(7, .inl x2823), (6, .inl x2778), (5, .inl x2754), (0, .inr (some a0)), (1, .inl a1), (2, .inl a2), (3, .inl a3), (4, .inl x2745)] _ _
                        refine tt_aload_n (pc := 231) dX7_go_231 (.tail _ (.tail _ (.tail _ (.head _)))) ?_
                        refine tt_get (pc := 232) dX7_go_232 flX7_77 ef2772 gf2772 ?_
                        refine tt_iload_n (pc := 235) dX7_go_235 (.tail _ (.tail _ (.tail _ (.tail _ (.head _))))) ?_
                        refine tt_dup2 (pc := 236) dX7_go_236 ?_
                        refine tt_iald (pc := 237) dX7_go_237 ef2775 (i_nn (by omega)) gf2775 ?_
                        refine tw_iconst (pc := 238) dX7_go_238 (by decide) (fun x2824 ex2824 => ?_)
                        refine tt_isub (pc := 239) dX7_go_239 ?_
                        refine tw_any (fun x2825 => ?_)
                        have bx2825 := i_ty x2825
                        refine tw_ist (P := (PEX 56)) (pc := 240) dX7_go_240 wh2749 tq2773 rfl (by omega) (by omega) (by omega) (by omega) (by decide) (fun f2826 h2827 eh2827 gh2827 kh2827 wh2827 fh2827 => ?_)
                        have hfh2827 := hfh2749.tr (fh2827.weak (weak_PEX (fun _ => rfl)))
                        have Jh2827 := i1_fr fh2827 (by decide) (by decide) (by decide) (by decide) Jh2749
                        obtain ⟨f2828, E2829, G2830⟩ := fr_fld fh2827 ta0 (by decide) ef2772 gf2772
                        obtain ⟨f2831, E2832, G2833⟩ := fr_fld fh2827 ta0 (by decide) ef2779 gf2779
                        have E2834 := fr_arrI fh2827 tq2780 (by decide) ef2784
                        refine tt_aload_n (pc := 241) dX7_go_241 (.tail _ (.tail _ (.tail _ (.head _)))) ?_
                        refine tt_iload_n (pc := 242) dX7_go_242 (.tail _ (.tail _ (.tail _ (.tail _ (.tail _ (.head _)))))) ?_
                        refine tt_iload (pc := 243) dX7_go_243 (.tail _ (.head _)) ?_
                        refine tw_iconst (pc := 245) dX7_go_245 (by decide) (fun x2835 ex2835 => ?_)
                        refine tt_iload_n (pc := 246) dX7_go_246 (.tail _ (.tail _ (.tail _ (.tail _ (.head _))))) ?_
                        refine tt_iload (pc := 247) dX7_go_247 (.head _) ?_
                        refine tw_iconst (pc := 249) dX7_go_249 (by decide) (fun x2836 ex2836 => ?_)
                        refine tw_callV (kc := 0) (ks := 0) (mc := 0) (ms := 0) (as := [.inl a2, .inl x2778, .inl x2835, .inl a1, .inl x2823, .inl x2836]) (st := []) (pc := 250) wh2827 ta0 (by decide) dX7_go_250 lkX7_103 imX7_put seX7_put rfl rfl (by decide) (by decide) (Nat.le_of_ble_eq_true rfl) (g_X7_putC hN2 hN8 hp0 hp64 wh2827 a0 ta0 a2 x2778 (by omega) (by omega) x2835 (by omega) (by omega) a1 (by omega) (by omega) x2823 (by omega) (by omega) x2836) (fun rv h2837 qh2837 => ?_)
                        obtain ⟨wh2837, fh2837, x2838, rfl, lx2838, ux2838⟩ := qh2837
                        have hfh2837 := hfh2827.tr (fh2837.weak weak_PMq_PMk)
                        have Jh2837 := i1_fr fh2837 (by decide) (by decide) (by decide) (by decide) Jh2827
                        show TT _ _ _ _ _ _ _ _ [.inl x2838] _
                        refine tw_if (tgt := 267) (pc := 253) dX7_go_253 (by decide) (fun (c2839 : x2838.toInt = 0) => ?_) (fun (c2839 : ¬ (x2838.toInt = 0)) => ?_)
                        · skip
                          refine tt_aload_n (pc := 267) dX7_go_267 (.tail _ (.tail _ (.tail _ (.head _)))) ?_
                          refine tw_getr (pc := 268) dX7_go_268 flX7_83 wh2837 ta0 (by decide) rfl (fun f2840 q2841 ef2840 gf2840 tq2841 => ?_)
                          refine tt_iload_n (pc := 271) dX7_go_271 (.tail _ (.tail _ (.tail _ (.tail _ (.head _))))) ?_
                          refine tw_iconst (pc := 272) dX7_go_272 (by decide) (fun x2842 ex2842 => ?_)
                          refine tw_ist (P := (PEX 58)) (pc := 273) dX7_go_273 wh2837 tq2841 rfl (by omega) (by omega) (by omega) (by omega) (by decide) (fun f2843 h2844 eh2844 gh2844 kh2844 wh2844 fh2844 => ?_)
                          have hfh2844 := hfh2837.tr (fh2844.weak (weak_PEX (fun _ => rfl)))
                          have Jh2844 := i1_fr fh2844 (by decide) (by decide) (by decide) (by decide) Jh2837
                          obtain ⟨f2845, E2846, G2847⟩ := fr_fld fh2844 ta0 (by decide) ef2840 gf2840
                          refine tt_stop ?_
                          rw [hQ]
                          exact Or.inl ⟨dX7_go_274, rfl, rfl, wh2844, hfh2844, rfl⟩
                        · skip
                          refine tt_aload_n (pc := 256) dX7_go_256 (.tail _ (.tail _ (.tail _ (.head _)))) ?_
                          refine tw_getr (pc := 257) dX7_go_257 flX7_86 wh2837 ta0 (by decide) rfl (fun f2848 q2849 ef2848 gf2848 tq2849 => ?_)
                          refine tt_iload_n (pc := 260) dX7_go_260 (.tail _ (.tail _ (.tail _ (.tail _ (.head _))))) ?_
                          refine tt_iload (pc := 261) dX7_go_261 (.head _) ?_
                          refine tw_ist (P := (PEX 59)) (pc := 263) dX7_go_263 wh2837 tq2849 rfl (by omega) (by omega) (by omega) (by omega) (by decide) (fun f2850 h2851 eh2851 gh2851 kh2851 wh2851 fh2851 => ?_)
                          have hfh2851 := hfh2837.tr (fh2851.weak (weak_PEX (fun _ => rfl)))
                          have Jh2851 := i1_fr fh2851 (by decide) (by decide) (by decide) (by decide) Jh2837
                          obtain ⟨f2852, E2853, G2854⟩ := fr_fld fh2851 ta0 (by decide) ef2848 gf2848
                          refine tt_goto (tgt := 274) (pc := 264) dX7_go_264 (by decide) ?_
                          refine tt_stop ?_
                          rw [hQ]
                          exact Or.inl ⟨dX7_go_274, rfl, rfl, wh2851, hfh2851, rfl⟩
                    · skip
                      refine tt_aload_n (pc := 173) dX7_go_173 (.tail _ (.head _)) ?_
                      refine tw_getr (pc := 174) dX7_go_174 flX7_83 wh2749 ta0 (by decide) rfl (fun f2855 q2856 ef2855 gf2855 tq2856 => ?_)
                      refine tt_iload_n (pc := 177) dX7_go_177 (.tail _ (.tail _ (.head _))) ?_
                      refine tw_iconst (pc := 178) dX7_go_178 (by decide) (fun x2857 ex2857 => ?_)
                      refine tw_ist (P := (PEX 58)) (pc := 179) dX7_go_179 wh2749 tq2856 rfl (by omega) (by omega) (by omega) (by omega) (by decide) (fun f2858 h2859 eh2859 gh2859 kh2859 wh2859 fh2859 => ?_)
                      have hfh2859 := hfh2749.tr (fh2859.weak (weak_PEX (fun _ => rfl)))
                      have Jh2859 := i1_fr fh2859 (by decide) (by decide) (by decide) (by decide) Jh2749
                      obtain ⟨f2860, E2861, G2862⟩ := fr_fld fh2859 ta0 (by decide) ef2772 gf2772
                      have E2863 := fr_arrI fh2859 tq2773 (by decide) ef2775
                      obtain ⟨f2864, E2865, G2866⟩ := fr_fld fh2859 ta0 (by decide) ef2855 gf2855
                      refine tt_goto (tgt := 274) (pc := 180) dX7_go_180 (by decide) ?_
                      refine tt_stop ?_
                      rw [hQ]
                      exact Or.inl ⟨dX7_go_274, rfl, rfl, wh2859, hfh2859, rfl⟩
                  · skip
                    refine tt_aload_n (pc := 154) dX7_go_154 (.tail _ (.head _)) ?_
                    refine tw_getr (pc := 155) dX7_go_155 flX7_83 wh2749 ta0 (by decide) rfl (fun f2867 q2868 ef2867 gf2867 tq2868 => ?_)
                    refine tt_iload_n (pc := 158) dX7_go_158 (.tail _ (.tail _ (.head _))) ?_
                    refine tw_iconst (pc := 159) dX7_go_159 (by decide) (fun x2869 ex2869 => ?_)
                    refine tw_ist (P := (PEX 58)) (pc := 160) dX7_go_160 wh2749 tq2868 rfl (by omega) (by omega) (by omega) (by omega) (by decide) (fun f2870 h2871 eh2871 gh2871 kh2871 wh2871 fh2871 => ?_)
                    have hfh2871 := hfh2749.tr (fh2871.weak (weak_PEX (fun _ => rfl)))
                    have Jh2871 := i1_fr fh2871 (by decide) (by decide) (by decide) (by decide) Jh2749
                    obtain ⟨f2872, E2873, G2874⟩ := fr_fld fh2871 ta0 (by decide) ef2867 gf2867
                    refine tt_goto (tgt := 274) (pc := 161) dX7_go_161 (by decide) ?_
                    refine tt_stop ?_
                    rw [hQ]
                    exact Or.inl ⟨dX7_go_274, rfl, rfl, wh2871, hfh2871, rfl⟩
              · skip
                exfalso
                omega
          · skip
            refine tt_aload_n (pc := 100) dX7_go_100 (.tail _ (.head _)) ?_
            refine tw_getr (pc := 101) dX7_go_101 flX7_26 wh2749 ta0 (by decide) rfl (fun f2875 q2876 ef2875 gf2875 tq2876 => ?_)
            refine tt_iload (pc := 104) dX7_go_104 (.tail _ (.tail _ (.tail _ (.tail _ (.tail _ (.head _)))))) ?_
            refine tw_ild (pc := 106) dX7_go_106 wh2749 tq2876 rfl (by omega) (by omega) (fun f2878 x2877 ef2878 gf2878 lx2877 ux2877 => ?_)
            refine tt_iload_n (pc := 107) dX7_go_107 (.tail _ (.tail _ (.tail _ (.head _)))) ?_
            refine tw_icmp (tgt := 121) (pc := 108) dX7_go_108 (by decide) (fun (c2879 : x2877.toInt ≠ a2.toInt) => ?_) (fun (c2879 : ¬ (x2877.toInt ≠ a2.toInt)) => ?_)
            · skip
              refine tt_iload_n (pc := 121) dX7_go_121 (.tail _ (.tail _ (.tail _ (.tail _ (.head _))))) ?_
              refine tw_iconst (pc := 122) dX7_go_122 (by decide) (fun x2880 ex2880 => ?_)
              refine tw_icmp (tgt := 142) (pc := 123) dX7_go_123 (by decide) (fun (c2881 : a3.toInt = x2880.toInt) => ?_) (fun (c2881 : ¬ (a3.toInt = x2880.toInt)) => ?_)
              · skip
                refine tt_iload (pc := 142) dX7_go_142 (.head _) ?_
                refine tw_iconst (pc := 144) dX7_go_144 (by decide) (fun x2882 ex2882 => ?_)
                refine tw_icmp (tgt := 154) (pc := 145) dX7_go_145 (by decide) (fun (c2883 : x2754.toInt = x2882.toInt) => ?_) (fun (c2883 : ¬ (x2754.toInt = x2882.toInt)) => ?_)
                · skip
                  refine tt_aload_n (pc := 154) dX7_go_154 (.tail _ (.head _)) ?_
                  refine tw_getr (pc := 155) dX7_go_155 flX7_83 wh2749 ta0 (by decide) rfl (fun f2884 q2885 ef2884 gf2884 tq2885 => ?_)
                  refine tt_iload_n (pc := 158) dX7_go_158 (.tail _ (.tail _ (.head _))) ?_
                  refine tw_iconst (pc := 159) dX7_go_159 (by decide) (fun x2886 ex2886 => ?_)
                  refine tw_ist (P := (PEX 58)) (pc := 160) dX7_go_160 wh2749 tq2885 rfl (by omega) (by omega) (by omega) (by omega) (by decide) (fun f2887 h2888 eh2888 gh2888 kh2888 wh2888 fh2888 => ?_)
                  have hfh2888 := hfh2749.tr (fh2888.weak (weak_PEX (fun _ => rfl)))
                  have Jh2888 := i1_fr fh2888 (by decide) (by decide) (by decide) (by decide) Jh2749
                  obtain ⟨f2889, E2890, G2891⟩ := fr_fld fh2888 ta0 (by decide) ef2875 gf2875
                  have E2892 := fr_arrI fh2888 tq2876 (by decide) ef2878
                  obtain ⟨f2893, E2894, G2895⟩ := fr_fld fh2888 ta0 (by decide) ef2884 gf2884
                  refine tt_goto (tgt := 274) (pc := 161) dX7_go_161 (by decide) ?_
                  refine tt_stop ?_
                  rw [hQ]
                  exact Or.inl ⟨dX7_go_274, rfl, rfl, wh2888, hfh2888, rfl⟩
                · skip
                  refine tt_iload (pc := 148) dX7_go_148 (.head _) ?_
                  refine tt_iload_n (pc := 150) dX7_go_150 (.tail _ (.tail _ (.tail _ (.head _)))) ?_
                  refine tw_icmp (tgt := 164) (pc := 151) dX7_go_151 (by decide) (fun (c2896 : x2754.toInt ≠ a2.toInt) => ?_) (fun (c2896 : ¬ (x2754.toInt ≠ a2.toInt)) => ?_)
                  · skip
                    refine tt_aload_n (pc := 164) dX7_go_164 (.tail _ (.head _)) ?_
                    refine tw_getr (pc := 165) dX7_go_165 flX7_77 wh2749 ta0 (by decide) rfl (fun f2897 q2898 ef2897 gf2897 tq2898 => ?_)
                    refine tt_iload_n (pc := 168) dX7_go_168 (.tail _ (.tail _ (.head _))) ?_
                    refine tw_ild (pc := 169) dX7_go_169 wh2749 tq2898 rfl (by omega) (by omega) (fun f2900 x2899 ef2900 gf2900 lx2899 ux2899 => ?_)
                    refine tw_if (tgt := 183) (pc := 170) dX7_go_170 (by decide) (fun (c2901 : x2899.toInt ≠ 0) => ?_) (fun (c2901 : ¬ (x2899.toInt ≠ 0)) => ?_)
                    · skip
                      refine tt_aload_n (pc := 183) dX7_go_183 (.tail _ (.head _)) ?_
                      refine tt_iload_n (pc := 184) dX7_go_184 (.tail _ (.tail _ (.tail _ (.head _)))) ?_
                      refine tt_iload (pc := 185) dX7_go_185 (.head _) ?_
                      obtain ⟨l0, hH⟩ := hopw_of hwb hN2 hN8 hIb ta0 iFh2749 jFh2749 kFh2749 fh2749 (r := a2.toInt.toNat) (e := x2754.toInt.toNat) (by omega) (by omega) (by omega) (Dx2754 (by omega))
                      refine tw_callV (kc := 0) (ks := 0) (mc := 0) (ms := 0) (as := [.inl a2, .inl x2754]) (st := []) (pc := 187) wh2749 ta0 (by decide) dX7_go_187 lkX7_142 imX7_hop seX7_hop rfl rfl (by decide) (by decide) (Nat.le_of_ble_eq_true rfl) (g_X7_hopW hN2 hN8 hp0 hp64 wh2749 a0 ta0 a2 (by omega) (by omega) x2754 (by omega) (by omega) hFh2749 iFh2749.1 (by omega) (Dx2754 (by omega)) hH) (fun rv h2902 qh2902 => ?_)
                      obtain ⟨rfl, x2903, rfl, lx2903, ux2903⟩ := qh2902
                      show TT _ _ _ _ _ _ _ _ [.inl x2903] _
                      refine tt_istore (pc := 190) dX7_go_190 (by decide) ?_
                      show TT _ _ _ _ _ _ _ [(6, .inl x2903), (5, .inl x2754), (0, .inr (some a0)), (1, .inl a1), (2, .inl a2), (3, .inl a3), (4, .inl x2745)] _ _
                      refine tt_aload_n (pc := 192) dX7_go_192 (.tail _ (.tail _ (.head _))) ?_
                      refine tw_getr (pc := 193) dX7_go_193 flX7_56 wh2749 ta0 (by decide) rfl (fun f2904 q2905 ef2904 gf2904 tq2905 => ?_)
                      refine tt_aload_n (pc := 196) dX7_go_196 (.tail _ (.tail _ (.head _))) ?_
                      refine tt_iload_n (pc := 197) dX7_go_197 (.tail _ (.tail _ (.tail _ (.tail _ (.head _))))) ?_
                      refine tt_iload (pc := 198) dX7_go_198 (.tail _ (.tail _ (.tail _ (.tail _ (.tail _ (.tail _ (.head _))))))) ?_
                      refine tt_iload (pc := 200) dX7_go_200 (.head _) ?_
                      refine tw_callV (kc := 0) (ks := 0) (mc := 0) (ms := 0) (as := [.inl a2, .inl x2745, .inl x2903]) (st := [.inr (some q2905)]) (pc := 202) wh2749 ta0 (by decide) dX7_go_202 lkX7_145 imX7_slot seX7_slot rfl rfl (by decide) (by decide) (Nat.le_of_ble_eq_true rfl) (g_X7_slot hN2 hN8 hp0 hp64 wh2749 a0 ta0 a2 (by omega) (by omega) x2745 (by omega) (by omega) x2903 (by omega) (by omega)) (fun rv h2906 qh2906 => ?_)
                      obtain ⟨rfl, x2907, rfl, lx2907, ux2907⟩ := qh2906
                      show TT _ _ _ _ _ _ _ _ [.inl x2907, .inr (some q2905)] _
                      refine tw_ild (pc := 205) dX7_go_205 wh2749 tq2905 rfl (by omega) (by omega) (fun f2909 x2908 ef2909 gf2909 lx2908 ux2908 => ?_)
                      refine tw_bipush (pc := 206) dX7_go_206 (by decide) (fun x2910 ex2910 => ?_)
                      refine tw_icmp (tgt := 215) (pc := 208) dX7_go_208 (by decide) (fun (c2911 : x2910.toInt ≤ x2908.toInt) => ?_) (fun (c2911 : ¬ (x2910.toInt ≤ x2908.toInt)) => ?_)
                      · skip
                        refine tt_aload_n (pc := 215) dX7_go_215 (.tail _ (.tail _ (.head _))) ?_
                        refine tt_get (pc := 216) dX7_go_216 flX7_56 ef2904 gf2904 ?_
                        refine tt_aload_n (pc := 219) dX7_go_219 (.tail _ (.tail _ (.head _))) ?_
                        refine tt_iload_n (pc := 220) dX7_go_220 (.tail _ (.tail _ (.tail _ (.tail _ (.head _))))) ?_
                        refine tt_iload (pc := 221) dX7_go_221 (.tail _ (.tail _ (.tail _ (.tail _ (.tail _ (.tail _ (.head _))))))) ?_
                        refine tt_iload (pc := 223) dX7_go_223 (.head _) ?_
                        refine tw_callV (kc := 0) (ks := 0) (mc := 0) (ms := 0) (as := [.inl a2, .inl x2745, .inl x2903]) (st := [.inr (some q2905)]) (pc := 225) wh2749 ta0 (by decide) dX7_go_225 lkX7_145 imX7_slot seX7_slot rfl rfl (by decide) (by decide) (Nat.le_of_ble_eq_true rfl) (g_X7_slot hN2 hN8 hp0 hp64 wh2749 a0 ta0 a2 (by omega) (by omega) x2745 (by omega) (by omega) x2903 (by omega) (by omega)) (fun rv h2912 qh2912 => ?_)
                        obtain ⟨rfl, x2913, rfl, lx2913, ux2913⟩ := qh2912
                        show TT _ _ _ _ _ _ _ _ [.inl x2913, .inr (some q2905)] _
                        refine tw_ild (pc := 228) dX7_go_228 wh2749 tq2905 rfl (by omega) (by omega) (fun f2915 x2914 ef2915 gf2915 lx2914 ux2914 => ?_)
                        refine tt_istore (pc := 229) dX7_go_229 (by decide) ?_
                        show TT _ _ _ _ _ _ _ [(7, .inl x2914), (6, .inl x2903), (5, .inl x2754), (0, .inr (some a0)), (1, .inl a1), (2, .inl a2), (3, .inl a3), (4, .inl x2745)] _ _
                        refine tt_aload_n (pc := 231) dX7_go_231 (.tail _ (.tail _ (.tail _ (.head _)))) ?_
                        refine tt_get (pc := 232) dX7_go_232 flX7_77 ef2897 gf2897 ?_
                        refine tt_iload_n (pc := 235) dX7_go_235 (.tail _ (.tail _ (.tail _ (.tail _ (.head _))))) ?_
                        refine tt_dup2 (pc := 236) dX7_go_236 ?_
                        refine tt_iald (pc := 237) dX7_go_237 ef2900 (i_nn (by omega)) gf2900 ?_
                        refine tw_iconst (pc := 238) dX7_go_238 (by decide) (fun x2916 ex2916 => ?_)
                        refine tt_isub (pc := 239) dX7_go_239 ?_
                        refine tw_any (fun x2917 => ?_)
                        have bx2917 := i_ty x2917
                        refine tw_ist (P := (PEX 56)) (pc := 240) dX7_go_240 wh2749 tq2898 rfl (by omega) (by omega) (by omega) (by omega) (by decide) (fun f2918 h2919 eh2919 gh2919 kh2919 wh2919 fh2919 => ?_)
                        have hfh2919 := hfh2749.tr (fh2919.weak (weak_PEX (fun _ => rfl)))
                        have Jh2919 := i1_fr fh2919 (by decide) (by decide) (by decide) (by decide) Jh2749
                        obtain ⟨f2920, E2921, G2922⟩ := fr_fld fh2919 ta0 (by decide) ef2875 gf2875
                        have E2923 := fr_arrI fh2919 tq2876 (by decide) ef2878
                        obtain ⟨f2924, E2925, G2926⟩ := fr_fld fh2919 ta0 (by decide) ef2897 gf2897
                        obtain ⟨f2927, E2928, G2929⟩ := fr_fld fh2919 ta0 (by decide) ef2904 gf2904
                        have E2930 := fr_arrI fh2919 tq2905 (by decide) ef2909
                        have E2931 := fr_arrI fh2919 tq2905 (by decide) ef2915
                        refine tt_aload_n (pc := 241) dX7_go_241 (.tail _ (.tail _ (.tail _ (.head _)))) ?_
                        refine tt_iload_n (pc := 242) dX7_go_242 (.tail _ (.tail _ (.tail _ (.tail _ (.tail _ (.head _)))))) ?_
                        refine tt_iload (pc := 243) dX7_go_243 (.tail _ (.head _)) ?_
                        refine tw_iconst (pc := 245) dX7_go_245 (by decide) (fun x2932 ex2932 => ?_)
                        refine tt_iload_n (pc := 246) dX7_go_246 (.tail _ (.tail _ (.tail _ (.tail _ (.head _))))) ?_
                        refine tt_iload (pc := 247) dX7_go_247 (.head _) ?_
                        refine tw_iconst (pc := 249) dX7_go_249 (by decide) (fun x2933 ex2933 => ?_)
                        refine tw_callV (kc := 0) (ks := 0) (mc := 0) (ms := 0) (as := [.inl a2, .inl x2903, .inl x2932, .inl a1, .inl x2914, .inl x2933]) (st := []) (pc := 250) wh2919 ta0 (by decide) dX7_go_250 lkX7_103 imX7_put seX7_put rfl rfl (by decide) (by decide) (Nat.le_of_ble_eq_true rfl) (g_X7_putC hN2 hN8 hp0 hp64 wh2919 a0 ta0 a2 x2903 (by omega) (by omega) x2932 (by omega) (by omega) a1 (by omega) (by omega) x2914 (by omega) (by omega) x2933) (fun rv h2934 qh2934 => ?_)
                        obtain ⟨wh2934, fh2934, x2935, rfl, lx2935, ux2935⟩ := qh2934
                        have hfh2934 := hfh2919.tr (fh2934.weak weak_PMq_PMk)
                        have Jh2934 := i1_fr fh2934 (by decide) (by decide) (by decide) (by decide) Jh2919
                        show TT _ _ _ _ _ _ _ _ [.inl x2935] _
                        refine tw_if (tgt := 267) (pc := 253) dX7_go_253 (by decide) (fun (c2936 : x2935.toInt = 0) => ?_) (fun (c2936 : ¬ (x2935.toInt = 0)) => ?_)
                        · skip
                          refine tt_aload_n (pc := 267) dX7_go_267 (.tail _ (.tail _ (.tail _ (.head _)))) ?_
                          refine tw_getr (pc := 268) dX7_go_268 flX7_83 wh2934 ta0 (by decide) rfl (fun f2937 q2938 ef2937 gf2937 tq2938 => ?_)
                          refine tt_iload_n (pc := 271) dX7_go_271 (.tail _ (.tail _ (.tail _ (.tail _ (.head _))))) ?_
                          refine tw_iconst (pc := 272) dX7_go_272 (by decide) (fun x2939 ex2939 => ?_)
                          refine tw_ist (P := (PEX 58)) (pc := 273) dX7_go_273 wh2934 tq2938 rfl (by omega) (by omega) (by omega) (by omega) (by decide) (fun f2940 h2941 eh2941 gh2941 kh2941 wh2941 fh2941 => ?_)
                          have hfh2941 := hfh2934.tr (fh2941.weak (weak_PEX (fun _ => rfl)))
                          have Jh2941 := i1_fr fh2941 (by decide) (by decide) (by decide) (by decide) Jh2934
                          obtain ⟨f2942, E2943, G2944⟩ := fr_fld fh2941 ta0 (by decide) ef2937 gf2937
                          refine tt_stop ?_
                          rw [hQ]
                          exact Or.inl ⟨dX7_go_274, rfl, rfl, wh2941, hfh2941, rfl⟩
                        · skip
                          refine tt_aload_n (pc := 256) dX7_go_256 (.tail _ (.tail _ (.tail _ (.head _)))) ?_
                          refine tw_getr (pc := 257) dX7_go_257 flX7_86 wh2934 ta0 (by decide) rfl (fun f2945 q2946 ef2945 gf2945 tq2946 => ?_)
                          refine tt_iload_n (pc := 260) dX7_go_260 (.tail _ (.tail _ (.tail _ (.tail _ (.head _))))) ?_
                          refine tt_iload (pc := 261) dX7_go_261 (.head _) ?_
                          refine tw_ist (P := (PEX 59)) (pc := 263) dX7_go_263 wh2934 tq2946 rfl (by omega) (by omega) (by omega) (by omega) (by decide) (fun f2947 h2948 eh2948 gh2948 kh2948 wh2948 fh2948 => ?_)
                          have hfh2948 := hfh2934.tr (fh2948.weak (weak_PEX (fun _ => rfl)))
                          have Jh2948 := i1_fr fh2948 (by decide) (by decide) (by decide) (by decide) Jh2934
                          obtain ⟨f2949, E2950, G2951⟩ := fr_fld fh2948 ta0 (by decide) ef2945 gf2945
                          refine tt_goto (tgt := 274) (pc := 264) dX7_go_264 (by decide) ?_
                          refine tt_stop ?_
                          rw [hQ]
                          exact Or.inl ⟨dX7_go_274, rfl, rfl, wh2948, hfh2948, rfl⟩
                      · skip
                        refine tw_iconst (pc := 211) dX7_go_211 (by decide) (fun x2952 ex2952 => ?_)
                        refine tt_goto (tgt := 229) (pc := 212) dX7_go_212 (by decide) ?_
                        refine tt_istore (pc := 229) dX7_go_229 (by decide) ?_
                        show TT _ _ _ _ _ _ _ [(7, .inl x2952), (6, .inl x2903), (5, .inl x2754), (0, .inr (some a0)), (1, .inl a1), (2, .inl a2), (3, .inl a3), (4, .inl x2745)] _ _
                        refine tt_aload_n (pc := 231) dX7_go_231 (.tail _ (.tail _ (.tail _ (.head _)))) ?_
                        refine tt_get (pc := 232) dX7_go_232 flX7_77 ef2897 gf2897 ?_
                        refine tt_iload_n (pc := 235) dX7_go_235 (.tail _ (.tail _ (.tail _ (.tail _ (.head _))))) ?_
                        refine tt_dup2 (pc := 236) dX7_go_236 ?_
                        refine tt_iald (pc := 237) dX7_go_237 ef2900 (i_nn (by omega)) gf2900 ?_
                        refine tw_iconst (pc := 238) dX7_go_238 (by decide) (fun x2953 ex2953 => ?_)
                        refine tt_isub (pc := 239) dX7_go_239 ?_
                        refine tw_any (fun x2954 => ?_)
                        have bx2954 := i_ty x2954
                        refine tw_ist (P := (PEX 56)) (pc := 240) dX7_go_240 wh2749 tq2898 rfl (by omega) (by omega) (by omega) (by omega) (by decide) (fun f2955 h2956 eh2956 gh2956 kh2956 wh2956 fh2956 => ?_)
                        have hfh2956 := hfh2749.tr (fh2956.weak (weak_PEX (fun _ => rfl)))
                        have Jh2956 := i1_fr fh2956 (by decide) (by decide) (by decide) (by decide) Jh2749
                        obtain ⟨f2957, E2958, G2959⟩ := fr_fld fh2956 ta0 (by decide) ef2875 gf2875
                        have E2960 := fr_arrI fh2956 tq2876 (by decide) ef2878
                        obtain ⟨f2961, E2962, G2963⟩ := fr_fld fh2956 ta0 (by decide) ef2897 gf2897
                        obtain ⟨f2964, E2965, G2966⟩ := fr_fld fh2956 ta0 (by decide) ef2904 gf2904
                        have E2967 := fr_arrI fh2956 tq2905 (by decide) ef2909
                        refine tt_aload_n (pc := 241) dX7_go_241 (.tail _ (.tail _ (.tail _ (.head _)))) ?_
                        refine tt_iload_n (pc := 242) dX7_go_242 (.tail _ (.tail _ (.tail _ (.tail _ (.tail _ (.head _)))))) ?_
                        refine tt_iload (pc := 243) dX7_go_243 (.tail _ (.head _)) ?_
                        refine tw_iconst (pc := 245) dX7_go_245 (by decide) (fun x2968 ex2968 => ?_)
                        refine tt_iload_n (pc := 246) dX7_go_246 (.tail _ (.tail _ (.tail _ (.tail _ (.head _))))) ?_
                        refine tt_iload (pc := 247) dX7_go_247 (.head _) ?_
                        refine tw_iconst (pc := 249) dX7_go_249 (by decide) (fun x2969 ex2969 => ?_)
                        refine tw_callV (kc := 0) (ks := 0) (mc := 0) (ms := 0) (as := [.inl a2, .inl x2903, .inl x2968, .inl a1, .inl x2952, .inl x2969]) (st := []) (pc := 250) wh2956 ta0 (by decide) dX7_go_250 lkX7_103 imX7_put seX7_put rfl rfl (by decide) (by decide) (Nat.le_of_ble_eq_true rfl) (g_X7_putC hN2 hN8 hp0 hp64 wh2956 a0 ta0 a2 x2903 (by omega) (by omega) x2968 (by omega) (by omega) a1 (by omega) (by omega) x2952 (by omega) (by omega) x2969) (fun rv h2970 qh2970 => ?_)
                        obtain ⟨wh2970, fh2970, x2971, rfl, lx2971, ux2971⟩ := qh2970
                        have hfh2970 := hfh2956.tr (fh2970.weak weak_PMq_PMk)
                        have Jh2970 := i1_fr fh2970 (by decide) (by decide) (by decide) (by decide) Jh2956
                        show TT _ _ _ _ _ _ _ _ [.inl x2971] _
                        refine tw_if (tgt := 267) (pc := 253) dX7_go_253 (by decide) (fun (c2972 : x2971.toInt = 0) => ?_) (fun (c2972 : ¬ (x2971.toInt = 0)) => ?_)
                        · skip
                          refine tt_aload_n (pc := 267) dX7_go_267 (.tail _ (.tail _ (.tail _ (.head _)))) ?_
                          refine tw_getr (pc := 268) dX7_go_268 flX7_83 wh2970 ta0 (by decide) rfl (fun f2973 q2974 ef2973 gf2973 tq2974 => ?_)
                          refine tt_iload_n (pc := 271) dX7_go_271 (.tail _ (.tail _ (.tail _ (.tail _ (.head _))))) ?_
                          refine tw_iconst (pc := 272) dX7_go_272 (by decide) (fun x2975 ex2975 => ?_)
                          refine tw_ist (P := (PEX 58)) (pc := 273) dX7_go_273 wh2970 tq2974 rfl (by omega) (by omega) (by omega) (by omega) (by decide) (fun f2976 h2977 eh2977 gh2977 kh2977 wh2977 fh2977 => ?_)
                          have hfh2977 := hfh2970.tr (fh2977.weak (weak_PEX (fun _ => rfl)))
                          have Jh2977 := i1_fr fh2977 (by decide) (by decide) (by decide) (by decide) Jh2970
                          obtain ⟨f2978, E2979, G2980⟩ := fr_fld fh2977 ta0 (by decide) ef2973 gf2973
                          refine tt_stop ?_
                          rw [hQ]
                          exact Or.inl ⟨dX7_go_274, rfl, rfl, wh2977, hfh2977, rfl⟩
                        · skip
                          refine tt_aload_n (pc := 256) dX7_go_256 (.tail _ (.tail _ (.tail _ (.head _)))) ?_
                          refine tw_getr (pc := 257) dX7_go_257 flX7_86 wh2970 ta0 (by decide) rfl (fun f2981 q2982 ef2981 gf2981 tq2982 => ?_)
                          refine tt_iload_n (pc := 260) dX7_go_260 (.tail _ (.tail _ (.tail _ (.tail _ (.head _))))) ?_
                          refine tt_iload (pc := 261) dX7_go_261 (.head _) ?_
                          refine tw_ist (P := (PEX 59)) (pc := 263) dX7_go_263 wh2970 tq2982 rfl (by omega) (by omega) (by omega) (by omega) (by decide) (fun f2983 h2984 eh2984 gh2984 kh2984 wh2984 fh2984 => ?_)
                          have hfh2984 := hfh2970.tr (fh2984.weak (weak_PEX (fun _ => rfl)))
                          have Jh2984 := i1_fr fh2984 (by decide) (by decide) (by decide) (by decide) Jh2970
                          obtain ⟨f2985, E2986, G2987⟩ := fr_fld fh2984 ta0 (by decide) ef2981 gf2981
                          refine tt_goto (tgt := 274) (pc := 264) dX7_go_264 (by decide) ?_
                          refine tt_stop ?_
                          rw [hQ]
                          exact Or.inl ⟨dX7_go_274, rfl, rfl, wh2984, hfh2984, rfl⟩
                    · skip
                      refine tt_aload_n (pc := 173) dX7_go_173 (.tail _ (.head _)) ?_
                      refine tw_getr (pc := 174) dX7_go_174 flX7_83 wh2749 ta0 (by decide) rfl (fun f2988 q2989 ef2988 gf2988 tq2989 => ?_)
                      refine tt_iload_n (pc := 177) dX7_go_177 (.tail _ (.tail _ (.head _))) ?_
                      refine tw_iconst (pc := 178) dX7_go_178 (by decide) (fun x2990 ex2990 => ?_)
                      refine tw_ist (P := (PEX 58)) (pc := 179) dX7_go_179 wh2749 tq2989 rfl (by omega) (by omega) (by omega) (by omega) (by decide) (fun f2991 h2992 eh2992 gh2992 kh2992 wh2992 fh2992 => ?_)
                      have hfh2992 := hfh2749.tr (fh2992.weak (weak_PEX (fun _ => rfl)))
                      have Jh2992 := i1_fr fh2992 (by decide) (by decide) (by decide) (by decide) Jh2749
                      obtain ⟨f2993, E2994, G2995⟩ := fr_fld fh2992 ta0 (by decide) ef2875 gf2875
                      have E2996 := fr_arrI fh2992 tq2876 (by decide) ef2878
                      obtain ⟨f2997, E2998, G2999⟩ := fr_fld fh2992 ta0 (by decide) ef2897 gf2897
                      have E3000 := fr_arrI fh2992 tq2898 (by decide) ef2900
                      obtain ⟨f3001, E3002, G3003⟩ := fr_fld fh2992 ta0 (by decide) ef2988 gf2988
                      refine tt_goto (tgt := 274) (pc := 180) dX7_go_180 (by decide) ?_
                      refine tt_stop ?_
                      rw [hQ]
                      exact Or.inl ⟨dX7_go_274, rfl, rfl, wh2992, hfh2992, rfl⟩
                  · skip
                    refine tt_aload_n (pc := 154) dX7_go_154 (.tail _ (.head _)) ?_
                    refine tw_getr (pc := 155) dX7_go_155 flX7_83 wh2749 ta0 (by decide) rfl (fun f3004 q3005 ef3004 gf3004 tq3005 => ?_)
                    refine tt_iload_n (pc := 158) dX7_go_158 (.tail _ (.tail _ (.head _))) ?_
                    refine tw_iconst (pc := 159) dX7_go_159 (by decide) (fun x3006 ex3006 => ?_)
                    refine tw_ist (P := (PEX 58)) (pc := 160) dX7_go_160 wh2749 tq3005 rfl (by omega) (by omega) (by omega) (by omega) (by decide) (fun f3007 h3008 eh3008 gh3008 kh3008 wh3008 fh3008 => ?_)
                    have hfh3008 := hfh2749.tr (fh3008.weak (weak_PEX (fun _ => rfl)))
                    have Jh3008 := i1_fr fh3008 (by decide) (by decide) (by decide) (by decide) Jh2749
                    obtain ⟨f3009, E3010, G3011⟩ := fr_fld fh3008 ta0 (by decide) ef2875 gf2875
                    have E3012 := fr_arrI fh3008 tq2876 (by decide) ef2878
                    obtain ⟨f3013, E3014, G3015⟩ := fr_fld fh3008 ta0 (by decide) ef3004 gf3004
                    refine tt_goto (tgt := 274) (pc := 161) dX7_go_161 (by decide) ?_
                    refine tt_stop ?_
                    rw [hQ]
                    exact Or.inl ⟨dX7_go_274, rfl, rfl, wh3008, hfh3008, rfl⟩
              · skip
                exfalso
                omega
            · skip
              refine tt_aload_n (pc := 111) dX7_go_111 (.tail _ (.head _)) ?_
              refine tw_getr (pc := 112) dX7_go_112 flX7_83 wh2749 ta0 (by decide) rfl (fun f3016 q3017 ef3016 gf3016 tq3017 => ?_)
              refine tt_iload_n (pc := 115) dX7_go_115 (.tail _ (.tail _ (.head _))) ?_
              refine tw_iconst (pc := 116) dX7_go_116 (by decide) (fun x3018 ex3018 => ?_)
              refine tw_ist (P := (PEX 58)) (pc := 117) dX7_go_117 wh2749 tq3017 rfl (by omega) (by omega) (by omega) (by omega) (by decide) (fun f3019 h3020 eh3020 gh3020 kh3020 wh3020 fh3020 => ?_)
              have hfh3020 := hfh2749.tr (fh3020.weak (weak_PEX (fun _ => rfl)))
              have Jh3020 := i1_fr fh3020 (by decide) (by decide) (by decide) (by decide) Jh2749
              obtain ⟨f3021, E3022, G3023⟩ := fr_fld fh3020 ta0 (by decide) ef2875 gf2875
              have E3024 := fr_arrI fh3020 tq2876 (by decide) ef2878
              obtain ⟨f3025, E3026, G3027⟩ := fr_fld fh3020 ta0 (by decide) ef3016 gf3016
              refine tt_goto (tgt := 274) (pc := 118) dX7_go_118 (by decide) ?_
              refine tt_stop ?_
              rw [hQ]
              exact Or.inl ⟨dX7_go_274, rfl, rfl, wh3020, hfh3020, rfl⟩
        · skip
          refine tw_iconst (pc := 82) dX7_go_82 (by decide) (fun x3028 ex3028 => ?_)
          refine tt_goto (tgt := 93) (pc := 83) dX7_go_83 (by decide) ?_
          refine tt_istore (pc := 93) dX7_go_93 (by decide) ?_
          show TT _ _ _ _ _ _ _ [(5, .inl x3028), (0, .inr (some a0)), (1, .inl a1), (2, .inl a2), (3, .inl a3), (4, .inl x2745)] _ _
          refine tt_iload_n (pc := 95) dX7_go_95 (.tail _ (.tail _ (.tail _ (.tail _ (.head _))))) ?_
          refine tw_iconst (pc := 96) dX7_go_96 (by decide) (fun x3029 ex3029 => ?_)
          refine tw_icmp (tgt := 121) (pc := 97) dX7_go_97 (by decide) (fun (c3030 : a3.toInt ≠ x3029.toInt) => ?_) (fun (c3030 : ¬ (a3.toInt ≠ x3029.toInt)) => ?_)
          · skip
            refine tt_iload_n (pc := 121) dX7_go_121 (.tail _ (.tail _ (.tail _ (.tail _ (.head _))))) ?_
            refine tw_iconst (pc := 122) dX7_go_122 (by decide) (fun x3031 ex3031 => ?_)
            refine tw_icmp (tgt := 142) (pc := 123) dX7_go_123 (by decide) (fun (c3032 : a3.toInt = x3031.toInt) => ?_) (fun (c3032 : ¬ (a3.toInt = x3031.toInt)) => ?_)
            · skip
              exfalso
              omega
            · skip
              refine tt_iload (pc := 126) dX7_go_126 (.tail _ (.tail _ (.tail _ (.tail _ (.tail _ (.head _)))))) ?_
              refine tw_iconst (pc := 128) dX7_go_128 (by decide) (fun x3033 ex3033 => ?_)
              refine tw_icmp (tgt := 142) (pc := 129) dX7_go_129 (by decide) (fun (c3034 : x2745.toInt ≠ x3033.toInt) => ?_) (fun (c3034 : ¬ (x2745.toInt ≠ x3033.toInt)) => ?_)
              · skip
                exfalso
                omega
              · skip
                refine tt_aload_n (pc := 132) dX7_go_132 (.tail _ (.head _)) ?_
                refine tw_getr (pc := 133) dX7_go_133 flX7_83 wh2749 ta0 (by decide) rfl (fun f3035 q3036 ef3035 gf3035 tq3036 => ?_)
                refine tt_iload_n (pc := 136) dX7_go_136 (.tail _ (.tail _ (.head _))) ?_
                refine tw_iconst (pc := 137) dX7_go_137 (by decide) (fun x3037 ex3037 => ?_)
                refine tw_ist (P := (PEX 58)) (pc := 138) dX7_go_138 wh2749 tq3036 rfl (by omega) (by omega) (by omega) (by omega) (by decide) (fun f3038 h3039 eh3039 gh3039 kh3039 wh3039 fh3039 => ?_)
                have hfh3039 := hfh2749.tr (fh3039.weak (weak_PEX (fun _ => rfl)))
                have Jh3039 := i1_fr fh3039 (by decide) (by decide) (by decide) (by decide) Jh2749
                obtain ⟨f3040, E3041, G3042⟩ := fr_fld fh3039 ta0 (by decide) ef3035 gf3035
                refine tt_goto (tgt := 274) (pc := 139) dX7_go_139 (by decide) ?_
                refine tt_stop ?_
                rw [hQ]
                exact Or.inl ⟨dX7_go_274, rfl, rfl, wh3039, hfh3039, rfl⟩
          · skip
            refine tt_aload_n (pc := 100) dX7_go_100 (.tail _ (.head _)) ?_
            refine tw_getr (pc := 101) dX7_go_101 flX7_26 wh2749 ta0 (by decide) rfl (fun f3043 q3044 ef3043 gf3043 tq3044 => ?_)
            refine tt_iload (pc := 104) dX7_go_104 (.tail _ (.tail _ (.tail _ (.tail _ (.tail _ (.head _)))))) ?_
            refine tw_ild (pc := 106) dX7_go_106 wh2749 tq3044 rfl (by omega) (by omega) (fun f3046 x3045 ef3046 gf3046 lx3045 ux3045 => ?_)
            refine tt_iload_n (pc := 107) dX7_go_107 (.tail _ (.tail _ (.tail _ (.head _)))) ?_
            refine tw_icmp (tgt := 121) (pc := 108) dX7_go_108 (by decide) (fun (c3047 : x3045.toInt ≠ a2.toInt) => ?_) (fun (c3047 : ¬ (x3045.toInt ≠ a2.toInt)) => ?_)
            · skip
              refine tt_iload_n (pc := 121) dX7_go_121 (.tail _ (.tail _ (.tail _ (.tail _ (.head _))))) ?_
              refine tw_iconst (pc := 122) dX7_go_122 (by decide) (fun x3048 ex3048 => ?_)
              refine tw_icmp (tgt := 142) (pc := 123) dX7_go_123 (by decide) (fun (c3049 : a3.toInt = x3048.toInt) => ?_) (fun (c3049 : ¬ (a3.toInt = x3048.toInt)) => ?_)
              · skip
                refine tt_iload (pc := 142) dX7_go_142 (.head _) ?_
                refine tw_iconst (pc := 144) dX7_go_144 (by decide) (fun x3050 ex3050 => ?_)
                refine tw_icmp (tgt := 154) (pc := 145) dX7_go_145 (by decide) (fun (c3051 : x3028.toInt = x3050.toInt) => ?_) (fun (c3051 : ¬ (x3028.toInt = x3050.toInt)) => ?_)
                · skip
                  refine tt_aload_n (pc := 154) dX7_go_154 (.tail _ (.head _)) ?_
                  refine tw_getr (pc := 155) dX7_go_155 flX7_83 wh2749 ta0 (by decide) rfl (fun f3052 q3053 ef3052 gf3052 tq3053 => ?_)
                  refine tt_iload_n (pc := 158) dX7_go_158 (.tail _ (.tail _ (.head _))) ?_
                  refine tw_iconst (pc := 159) dX7_go_159 (by decide) (fun x3054 ex3054 => ?_)
                  refine tw_ist (P := (PEX 58)) (pc := 160) dX7_go_160 wh2749 tq3053 rfl (by omega) (by omega) (by omega) (by omega) (by decide) (fun f3055 h3056 eh3056 gh3056 kh3056 wh3056 fh3056 => ?_)
                  have hfh3056 := hfh2749.tr (fh3056.weak (weak_PEX (fun _ => rfl)))
                  have Jh3056 := i1_fr fh3056 (by decide) (by decide) (by decide) (by decide) Jh2749
                  obtain ⟨f3057, E3058, G3059⟩ := fr_fld fh3056 ta0 (by decide) ef3043 gf3043
                  have E3060 := fr_arrI fh3056 tq3044 (by decide) ef3046
                  obtain ⟨f3061, E3062, G3063⟩ := fr_fld fh3056 ta0 (by decide) ef3052 gf3052
                  refine tt_goto (tgt := 274) (pc := 161) dX7_go_161 (by decide) ?_
                  refine tt_stop ?_
                  rw [hQ]
                  exact Or.inl ⟨dX7_go_274, rfl, rfl, wh3056, hfh3056, rfl⟩
                · skip
                  exfalso
                  omega
              · skip
                exfalso
                omega
            · skip
              refine tt_aload_n (pc := 111) dX7_go_111 (.tail _ (.head _)) ?_
              refine tw_getr (pc := 112) dX7_go_112 flX7_83 wh2749 ta0 (by decide) rfl (fun f3064 q3065 ef3064 gf3064 tq3065 => ?_)
              refine tt_iload_n (pc := 115) dX7_go_115 (.tail _ (.tail _ (.head _))) ?_
              refine tw_iconst (pc := 116) dX7_go_116 (by decide) (fun x3066 ex3066 => ?_)
              refine tw_ist (P := (PEX 58)) (pc := 117) dX7_go_117 wh2749 tq3065 rfl (by omega) (by omega) (by omega) (by omega) (by decide) (fun f3067 h3068 eh3068 gh3068 kh3068 wh3068 fh3068 => ?_)
              have hfh3068 := hfh2749.tr (fh3068.weak (weak_PEX (fun _ => rfl)))
              have Jh3068 := i1_fr fh3068 (by decide) (by decide) (by decide) (by decide) Jh2749
              obtain ⟨f3069, E3070, G3071⟩ := fr_fld fh3068 ta0 (by decide) ef3043 gf3043
              have E3072 := fr_arrI fh3068 tq3044 (by decide) ef3046
              obtain ⟨f3073, E3074, G3075⟩ := fr_fld fh3068 ta0 (by decide) ef3064 gf3064
              refine tt_goto (tgt := 274) (pc := 118) dX7_go_118 (by decide) ?_
              refine tt_stop ?_
              rw [hQ]
              exact Or.inl ⟨dX7_go_274, rfl, rfl, wh3068, hfh3068, rfl⟩
      · skip
        refine tt_iload_n (pc := 34) dX7_go_34 (.tail _ (.tail _ (.tail _ (.head _)))) ?_
        refine tw_bipush (pc := 35) dX7_go_35 (by decide) (fun x3076 ex3076 => ?_)
        refine tw_icmp (tgt := 71) (pc := 37) dX7_go_37 (by decide) (fun (c3077 : a3.toInt < x3076.toInt) => ?_) (fun (c3077 : ¬ (a3.toInt < x3076.toInt)) => ?_)
        · skip
          refine tt_aload_n (pc := 71) dX7_go_71 (.head _) ?_
          refine tt_iload_n (pc := 72) dX7_go_72 (.tail _ (.tail _ (.head _))) ?_
          refine tw_callV (kc := 0) (ks := 0) (mc := 0) (ms := 0) (as := [.inl a2]) (st := []) (pc := 73) hwb ta0 (by decide) dX7_go_73 lkX7_163 imX7_measure seX7_measure rfl rfl (by decide) (by decide) (Nat.le_of_ble_eq_true rfl) (g_X7_measureE hN2 hN8 hp0 hp64 hwb a0 ta0 a2 (by omega) (by omega)) (fun rv h3078 qh3078 => ?_)
          obtain ⟨wh3078, fh3078, rfl, Fh3078, hFh3078, iFh3078, jFh3078, kFh3078⟩ := qh3078
          have hfh3078 := hfb.tr (fh3078.weak (weak_PEX (fun _ => rfl)))
          have Jh3078 := i1_fr fh3078 (by decide) (by decide) (by decide) (by decide) hIb
          show TT _ _ _ _ _ _ _ _ [] _
          refine tt_iload (pc := 76) dX7_go_76 (.tail _ (.tail _ (.tail _ (.tail _ (.head _))))) ?_
          refine tw_iconst (pc := 78) dX7_go_78 (by decide) (fun x3079 ex3079 => ?_)
          refine tw_icmp (tgt := 86) (pc := 79) dX7_go_79 (by decide) (fun (c3080 : x2745.toInt ≠ x3079.toInt) => ?_) (fun (c3080 : ¬ (x2745.toInt ≠ x3079.toInt)) => ?_)
          · skip
            refine tt_aload_n (pc := 86) dX7_go_86 (.head _) ?_
            refine tt_iload_n (pc := 87) dX7_go_87 (.tail _ (.tail _ (.head _))) ?_
            refine tt_iload (pc := 88) dX7_go_88 (.tail _ (.tail _ (.tail _ (.tail _ (.head _))))) ?_
            refine tw_callV (kc := 0) (ks := 0) (mc := 0) (ms := 0) (as := [.inl a2, .inl x2745]) (st := []) (pc := 90) wh3078 ta0 (by decide) dX7_go_90 lkX7_139 imX7_egress seX7_egress rfl rfl (by decide) (by decide) (Nat.le_of_ble_eq_true rfl) (g_X7_egressE hN2 hN8 hp0 hp64 wh3078 a0 ta0 a2 (by omega) (by omega) x2745 hFh3078) (fun rv h3081 qh3081 => ?_)
            obtain ⟨rfl, x3083, rfl, lx3083, ux3083, Dx3083⟩ := qh3081
            show TT _ _ _ _ _ _ _ _ [.inl x3083] _
            refine tt_istore (pc := 93) dX7_go_93 (by decide) ?_
            show TT _ _ _ _ _ _ _ [(5, .inl x3083), (0, .inr (some a0)), (1, .inl a1), (2, .inl a2), (3, .inl a3), (4, .inl x2745)] _ _
            refine tt_iload_n (pc := 95) dX7_go_95 (.tail _ (.tail _ (.tail _ (.tail _ (.head _))))) ?_
            refine tw_iconst (pc := 96) dX7_go_96 (by decide) (fun x3084 ex3084 => ?_)
            refine tw_icmp (tgt := 121) (pc := 97) dX7_go_97 (by decide) (fun (c3085 : a3.toInt ≠ x3084.toInt) => ?_) (fun (c3085 : ¬ (a3.toInt ≠ x3084.toInt)) => ?_)
            · skip
              refine tt_iload_n (pc := 121) dX7_go_121 (.tail _ (.tail _ (.tail _ (.tail _ (.head _))))) ?_
              refine tw_iconst (pc := 122) dX7_go_122 (by decide) (fun x3086 ex3086 => ?_)
              refine tw_icmp (tgt := 142) (pc := 123) dX7_go_123 (by decide) (fun (c3087 : a3.toInt = x3086.toInt) => ?_) (fun (c3087 : ¬ (a3.toInt = x3086.toInt)) => ?_)
              · skip
                exfalso
                omega
              · skip
                refine tt_iload (pc := 126) dX7_go_126 (.tail _ (.tail _ (.tail _ (.tail _ (.tail _ (.head _)))))) ?_
                refine tw_iconst (pc := 128) dX7_go_128 (by decide) (fun x3088 ex3088 => ?_)
                refine tw_icmp (tgt := 142) (pc := 129) dX7_go_129 (by decide) (fun (c3089 : x2745.toInt ≠ x3088.toInt) => ?_) (fun (c3089 : ¬ (x2745.toInt ≠ x3088.toInt)) => ?_)
                · skip
                  refine tt_iload (pc := 142) dX7_go_142 (.head _) ?_
                  refine tw_iconst (pc := 144) dX7_go_144 (by decide) (fun x3090 ex3090 => ?_)
                  refine tw_icmp (tgt := 154) (pc := 145) dX7_go_145 (by decide) (fun (c3091 : x3083.toInt = x3090.toInt) => ?_) (fun (c3091 : ¬ (x3083.toInt = x3090.toInt)) => ?_)
                  · skip
                    refine tt_aload_n (pc := 154) dX7_go_154 (.tail _ (.head _)) ?_
                    refine tw_getr (pc := 155) dX7_go_155 flX7_83 wh3078 ta0 (by decide) rfl (fun f3092 q3093 ef3092 gf3092 tq3093 => ?_)
                    refine tt_iload_n (pc := 158) dX7_go_158 (.tail _ (.tail _ (.head _))) ?_
                    refine tw_iconst (pc := 159) dX7_go_159 (by decide) (fun x3094 ex3094 => ?_)
                    refine tw_ist (P := (PEX 58)) (pc := 160) dX7_go_160 wh3078 tq3093 rfl (by omega) (by omega) (by omega) (by omega) (by decide) (fun f3095 h3096 eh3096 gh3096 kh3096 wh3096 fh3096 => ?_)
                    have hfh3096 := hfh3078.tr (fh3096.weak (weak_PEX (fun _ => rfl)))
                    have Jh3096 := i1_fr fh3096 (by decide) (by decide) (by decide) (by decide) Jh3078
                    obtain ⟨f3097, E3098, G3099⟩ := fr_fld fh3096 ta0 (by decide) ef3092 gf3092
                    refine tt_goto (tgt := 274) (pc := 161) dX7_go_161 (by decide) ?_
                    refine tt_stop ?_
                    rw [hQ]
                    exact Or.inl ⟨dX7_go_274, rfl, rfl, wh3096, hfh3096, rfl⟩
                  · skip
                    refine tt_iload (pc := 148) dX7_go_148 (.head _) ?_
                    refine tt_iload_n (pc := 150) dX7_go_150 (.tail _ (.tail _ (.tail _ (.head _)))) ?_
                    refine tw_icmp (tgt := 164) (pc := 151) dX7_go_151 (by decide) (fun (c3100 : x3083.toInt ≠ a2.toInt) => ?_) (fun (c3100 : ¬ (x3083.toInt ≠ a2.toInt)) => ?_)
                    · skip
                      refine tt_aload_n (pc := 164) dX7_go_164 (.tail _ (.head _)) ?_
                      refine tw_getr (pc := 165) dX7_go_165 flX7_77 wh3078 ta0 (by decide) rfl (fun f3101 q3102 ef3101 gf3101 tq3102 => ?_)
                      refine tt_iload_n (pc := 168) dX7_go_168 (.tail _ (.tail _ (.head _))) ?_
                      refine tw_ild (pc := 169) dX7_go_169 wh3078 tq3102 rfl (by omega) (by omega) (fun f3104 x3103 ef3104 gf3104 lx3103 ux3103 => ?_)
                      refine tw_if (tgt := 183) (pc := 170) dX7_go_170 (by decide) (fun (c3105 : x3103.toInt ≠ 0) => ?_) (fun (c3105 : ¬ (x3103.toInt ≠ 0)) => ?_)
                      · skip
                        refine tt_aload_n (pc := 183) dX7_go_183 (.tail _ (.head _)) ?_
                        refine tt_iload_n (pc := 184) dX7_go_184 (.tail _ (.tail _ (.tail _ (.head _)))) ?_
                        refine tt_iload (pc := 185) dX7_go_185 (.head _) ?_
                        obtain ⟨l0, hH⟩ := hopw_of hwb hN2 hN8 hIb ta0 iFh3078 jFh3078 kFh3078 fh3078 (r := a2.toInt.toNat) (e := x3083.toInt.toNat) (by omega) (by omega) (by omega) (Dx3083 (by omega))
                        refine tw_callV (kc := 0) (ks := 0) (mc := 0) (ms := 0) (as := [.inl a2, .inl x3083]) (st := []) (pc := 187) wh3078 ta0 (by decide) dX7_go_187 lkX7_142 imX7_hop seX7_hop rfl rfl (by decide) (by decide) (Nat.le_of_ble_eq_true rfl) (g_X7_hopW hN2 hN8 hp0 hp64 wh3078 a0 ta0 a2 (by omega) (by omega) x3083 (by omega) (by omega) hFh3078 iFh3078.1 (by omega) (Dx3083 (by omega)) hH) (fun rv h3106 qh3106 => ?_)
                        obtain ⟨rfl, x3107, rfl, lx3107, ux3107⟩ := qh3106
                        show TT _ _ _ _ _ _ _ _ [.inl x3107] _
                        refine tt_istore (pc := 190) dX7_go_190 (by decide) ?_
                        show TT _ _ _ _ _ _ _ [(6, .inl x3107), (5, .inl x3083), (0, .inr (some a0)), (1, .inl a1), (2, .inl a2), (3, .inl a3), (4, .inl x2745)] _ _
                        refine tt_aload_n (pc := 192) dX7_go_192 (.tail _ (.tail _ (.head _))) ?_
                        refine tw_getr (pc := 193) dX7_go_193 flX7_56 wh3078 ta0 (by decide) rfl (fun f3108 q3109 ef3108 gf3108 tq3109 => ?_)
                        refine tt_aload_n (pc := 196) dX7_go_196 (.tail _ (.tail _ (.head _))) ?_
                        refine tt_iload_n (pc := 197) dX7_go_197 (.tail _ (.tail _ (.tail _ (.tail _ (.head _))))) ?_
                        refine tt_iload (pc := 198) dX7_go_198 (.tail _ (.tail _ (.tail _ (.tail _ (.tail _ (.tail _ (.head _))))))) ?_
                        refine tt_iload (pc := 200) dX7_go_200 (.head _) ?_
                        refine tw_callV (kc := 0) (ks := 0) (mc := 0) (ms := 0) (as := [.inl a2, .inl x2745, .inl x3107]) (st := [.inr (some q3109)]) (pc := 202) wh3078 ta0 (by decide) dX7_go_202 lkX7_145 imX7_slot seX7_slot rfl rfl (by decide) (by decide) (Nat.le_of_ble_eq_true rfl) (g_X7_slot hN2 hN8 hp0 hp64 wh3078 a0 ta0 a2 (by omega) (by omega) x2745 (by omega) (by omega) x3107 (by omega) (by omega)) (fun rv h3110 qh3110 => ?_)
                        obtain ⟨rfl, x3111, rfl, lx3111, ux3111⟩ := qh3110
                        show TT _ _ _ _ _ _ _ _ [.inl x3111, .inr (some q3109)] _
                        refine tw_ild (pc := 205) dX7_go_205 wh3078 tq3109 rfl (by omega) (by omega) (fun f3113 x3112 ef3113 gf3113 lx3112 ux3112 => ?_)
                        refine tw_bipush (pc := 206) dX7_go_206 (by decide) (fun x3114 ex3114 => ?_)
                        refine tw_icmp (tgt := 215) (pc := 208) dX7_go_208 (by decide) (fun (c3115 : x3114.toInt ≤ x3112.toInt) => ?_) (fun (c3115 : ¬ (x3114.toInt ≤ x3112.toInt)) => ?_)
                        · skip
                          refine tt_aload_n (pc := 215) dX7_go_215 (.tail _ (.tail _ (.head _))) ?_
                          refine tt_get (pc := 216) dX7_go_216 flX7_56 ef3108 gf3108 ?_
                          refine tt_aload_n (pc := 219) dX7_go_219 (.tail _ (.tail _ (.head _))) ?_
                          refine tt_iload_n (pc := 220) dX7_go_220 (.tail _ (.tail _ (.tail _ (.tail _ (.head _))))) ?_
                          refine tt_iload (pc := 221) dX7_go_221 (.tail _ (.tail _ (.tail _ (.tail _ (.tail _ (.tail _ (.head _))))))) ?_
                          refine tt_iload (pc := 223) dX7_go_223 (.head _) ?_
                          refine tw_callV (kc := 0) (ks := 0) (mc := 0) (ms := 0) (as := [.inl a2, .inl x2745, .inl x3107]) (st := [.inr (some q3109)]) (pc := 225) wh3078 ta0 (by decide) dX7_go_225 lkX7_145 imX7_slot seX7_slot rfl rfl (by decide) (by decide) (Nat.le_of_ble_eq_true rfl) (g_X7_slot hN2 hN8 hp0 hp64 wh3078 a0 ta0 a2 (by omega) (by omega) x2745 (by omega) (by omega) x3107 (by omega) (by omega)) (fun rv h3116 qh3116 => ?_)
                          obtain ⟨rfl, x3117, rfl, lx3117, ux3117⟩ := qh3116
                          show TT _ _ _ _ _ _ _ _ [.inl x3117, .inr (some q3109)] _
                          refine tw_ild (pc := 228) dX7_go_228 wh3078 tq3109 rfl (by omega) (by omega) (fun f3119 x3118 ef3119 gf3119 lx3118 ux3118 => ?_)
                          refine tt_istore (pc := 229) dX7_go_229 (by decide) ?_
                          show TT _ _ _ _ _ _ _ [(7, .inl x3118), (6, .inl x3107), (5, .inl x3083), (0, .inr (some a0)), (1, .inl a1), (2, .inl a2), (3, .inl a3), (4, .inl x2745)] _ _
                          refine tt_aload_n (pc := 231) dX7_go_231 (.tail _ (.tail _ (.tail _ (.head _)))) ?_
                          refine tt_get (pc := 232) dX7_go_232 flX7_77 ef3101 gf3101 ?_
                          refine tt_iload_n (pc := 235) dX7_go_235 (.tail _ (.tail _ (.tail _ (.tail _ (.head _))))) ?_
                          refine tt_dup2 (pc := 236) dX7_go_236 ?_
                          refine tt_iald (pc := 237) dX7_go_237 ef3104 (i_nn (by omega)) gf3104 ?_
                          refine tw_iconst (pc := 238) dX7_go_238 (by decide) (fun x3120 ex3120 => ?_)
                          refine tt_isub (pc := 239) dX7_go_239 ?_
                          refine tw_any (fun x3121 => ?_)
                          have bx3121 := i_ty x3121
                          refine tw_ist (P := (PEX 56)) (pc := 240) dX7_go_240 wh3078 tq3102 rfl (by omega) (by omega) (by omega) (by omega) (by decide) (fun f3122 h3123 eh3123 gh3123 kh3123 wh3123 fh3123 => ?_)
                          have hfh3123 := hfh3078.tr (fh3123.weak (weak_PEX (fun _ => rfl)))
                          have Jh3123 := i1_fr fh3123 (by decide) (by decide) (by decide) (by decide) Jh3078
                          obtain ⟨f3124, E3125, G3126⟩ := fr_fld fh3123 ta0 (by decide) ef3101 gf3101
                          obtain ⟨f3127, E3128, G3129⟩ := fr_fld fh3123 ta0 (by decide) ef3108 gf3108
                          have E3130 := fr_arrI fh3123 tq3109 (by decide) ef3113
                          have E3131 := fr_arrI fh3123 tq3109 (by decide) ef3119
                          refine tt_aload_n (pc := 241) dX7_go_241 (.tail _ (.tail _ (.tail _ (.head _)))) ?_
                          refine tt_iload_n (pc := 242) dX7_go_242 (.tail _ (.tail _ (.tail _ (.tail _ (.tail _ (.head _)))))) ?_
                          refine tt_iload (pc := 243) dX7_go_243 (.tail _ (.head _)) ?_
                          refine tw_iconst (pc := 245) dX7_go_245 (by decide) (fun x3132 ex3132 => ?_)
                          refine tt_iload_n (pc := 246) dX7_go_246 (.tail _ (.tail _ (.tail _ (.tail _ (.head _))))) ?_
                          refine tt_iload (pc := 247) dX7_go_247 (.head _) ?_
                          refine tw_iconst (pc := 249) dX7_go_249 (by decide) (fun x3133 ex3133 => ?_)
                          refine tw_callV (kc := 0) (ks := 0) (mc := 0) (ms := 0) (as := [.inl a2, .inl x3107, .inl x3132, .inl a1, .inl x3118, .inl x3133]) (st := []) (pc := 250) wh3123 ta0 (by decide) dX7_go_250 lkX7_103 imX7_put seX7_put rfl rfl (by decide) (by decide) (Nat.le_of_ble_eq_true rfl) (g_X7_putC hN2 hN8 hp0 hp64 wh3123 a0 ta0 a2 x3107 (by omega) (by omega) x3132 (by omega) (by omega) a1 (by omega) (by omega) x3118 (by omega) (by omega) x3133) (fun rv h3134 qh3134 => ?_)
                          obtain ⟨wh3134, fh3134, x3135, rfl, lx3135, ux3135⟩ := qh3134
                          have hfh3134 := hfh3123.tr (fh3134.weak weak_PMq_PMk)
                          have Jh3134 := i1_fr fh3134 (by decide) (by decide) (by decide) (by decide) Jh3123
                          show TT _ _ _ _ _ _ _ _ [.inl x3135] _
                          refine tw_if (tgt := 267) (pc := 253) dX7_go_253 (by decide) (fun (c3136 : x3135.toInt = 0) => ?_) (fun (c3136 : ¬ (x3135.toInt = 0)) => ?_)
                          · skip
                            refine tt_aload_n (pc := 267) dX7_go_267 (.tail _ (.tail _ (.tail _ (.head _)))) ?_
                            refine tw_getr (pc := 268) dX7_go_268 flX7_83 wh3134 ta0 (by decide) rfl (fun f3137 q3138 ef3137 gf3137 tq3138 => ?_)
                            refine tt_iload_n (pc := 271) dX7_go_271 (.tail _ (.tail _ (.tail _ (.tail _ (.head _))))) ?_
                            refine tw_iconst (pc := 272) dX7_go_272 (by decide) (fun x3139 ex3139 => ?_)
                            refine tw_ist (P := (PEX 58)) (pc := 273) dX7_go_273 wh3134 tq3138 rfl (by omega) (by omega) (by omega) (by omega) (by decide) (fun f3140 h3141 eh3141 gh3141 kh3141 wh3141 fh3141 => ?_)
                            have hfh3141 := hfh3134.tr (fh3141.weak (weak_PEX (fun _ => rfl)))
                            have Jh3141 := i1_fr fh3141 (by decide) (by decide) (by decide) (by decide) Jh3134
                            obtain ⟨f3142, E3143, G3144⟩ := fr_fld fh3141 ta0 (by decide) ef3137 gf3137
                            refine tt_stop ?_
                            rw [hQ]
                            exact Or.inl ⟨dX7_go_274, rfl, rfl, wh3141, hfh3141, rfl⟩
                          · skip
                            refine tt_aload_n (pc := 256) dX7_go_256 (.tail _ (.tail _ (.tail _ (.head _)))) ?_
                            refine tw_getr (pc := 257) dX7_go_257 flX7_86 wh3134 ta0 (by decide) rfl (fun f3145 q3146 ef3145 gf3145 tq3146 => ?_)
                            refine tt_iload_n (pc := 260) dX7_go_260 (.tail _ (.tail _ (.tail _ (.tail _ (.head _))))) ?_
                            refine tt_iload (pc := 261) dX7_go_261 (.head _) ?_
                            refine tw_ist (P := (PEX 59)) (pc := 263) dX7_go_263 wh3134 tq3146 rfl (by omega) (by omega) (by omega) (by omega) (by decide) (fun f3147 h3148 eh3148 gh3148 kh3148 wh3148 fh3148 => ?_)
                            have hfh3148 := hfh3134.tr (fh3148.weak (weak_PEX (fun _ => rfl)))
                            have Jh3148 := i1_fr fh3148 (by decide) (by decide) (by decide) (by decide) Jh3134
                            obtain ⟨f3149, E3150, G3151⟩ := fr_fld fh3148 ta0 (by decide) ef3145 gf3145
                            refine tt_goto (tgt := 274) (pc := 264) dX7_go_264 (by decide) ?_
                            refine tt_stop ?_
                            rw [hQ]
                            exact Or.inl ⟨dX7_go_274, rfl, rfl, wh3148, hfh3148, rfl⟩
                        · skip
                          refine tw_iconst (pc := 211) dX7_go_211 (by decide) (fun x3152 ex3152 => ?_)
                          refine tt_goto (tgt := 229) (pc := 212) dX7_go_212 (by decide) ?_
                          refine tt_istore (pc := 229) dX7_go_229 (by decide) ?_
                          show TT _ _ _ _ _ _ _ [(7, .inl x3152), (6, .inl x3107), (5, .inl x3083), (0, .inr (some a0)), (1, .inl a1), (2, .inl a2), (3, .inl a3), (4, .inl x2745)] _ _
                          refine tt_aload_n (pc := 231) dX7_go_231 (.tail _ (.tail _ (.tail _ (.head _)))) ?_
                          refine tt_get (pc := 232) dX7_go_232 flX7_77 ef3101 gf3101 ?_
                          refine tt_iload_n (pc := 235) dX7_go_235 (.tail _ (.tail _ (.tail _ (.tail _ (.head _))))) ?_
                          refine tt_dup2 (pc := 236) dX7_go_236 ?_
                          refine tt_iald (pc := 237) dX7_go_237 ef3104 (i_nn (by omega)) gf3104 ?_
                          refine tw_iconst (pc := 238) dX7_go_238 (by decide) (fun x3153 ex3153 => ?_)
                          refine tt_isub (pc := 239) dX7_go_239 ?_
                          refine tw_any (fun x3154 => ?_)
                          have bx3154 := i_ty x3154
                          refine tw_ist (P := (PEX 56)) (pc := 240) dX7_go_240 wh3078 tq3102 rfl (by omega) (by omega) (by omega) (by omega) (by decide) (fun f3155 h3156 eh3156 gh3156 kh3156 wh3156 fh3156 => ?_)
                          have hfh3156 := hfh3078.tr (fh3156.weak (weak_PEX (fun _ => rfl)))
                          have Jh3156 := i1_fr fh3156 (by decide) (by decide) (by decide) (by decide) Jh3078
                          obtain ⟨f3157, E3158, G3159⟩ := fr_fld fh3156 ta0 (by decide) ef3101 gf3101
                          obtain ⟨f3160, E3161, G3162⟩ := fr_fld fh3156 ta0 (by decide) ef3108 gf3108
                          have E3163 := fr_arrI fh3156 tq3109 (by decide) ef3113
                          refine tt_aload_n (pc := 241) dX7_go_241 (.tail _ (.tail _ (.tail _ (.head _)))) ?_
                          refine tt_iload_n (pc := 242) dX7_go_242 (.tail _ (.tail _ (.tail _ (.tail _ (.tail _ (.head _)))))) ?_
                          refine tt_iload (pc := 243) dX7_go_243 (.tail _ (.head _)) ?_
                          refine tw_iconst (pc := 245) dX7_go_245 (by decide) (fun x3164 ex3164 => ?_)
                          refine tt_iload_n (pc := 246) dX7_go_246 (.tail _ (.tail _ (.tail _ (.tail _ (.head _))))) ?_
                          refine tt_iload (pc := 247) dX7_go_247 (.head _) ?_
                          refine tw_iconst (pc := 249) dX7_go_249 (by decide) (fun x3165 ex3165 => ?_)
                          refine tw_callV (kc := 0) (ks := 0) (mc := 0) (ms := 0) (as := [.inl a2, .inl x3107, .inl x3164, .inl a1, .inl x3152, .inl x3165]) (st := []) (pc := 250) wh3156 ta0 (by decide) dX7_go_250 lkX7_103 imX7_put seX7_put rfl rfl (by decide) (by decide) (Nat.le_of_ble_eq_true rfl) (g_X7_putC hN2 hN8 hp0 hp64 wh3156 a0 ta0 a2 x3107 (by omega) (by omega) x3164 (by omega) (by omega) a1 (by omega) (by omega) x3152 (by omega) (by omega) x3165) (fun rv h3166 qh3166 => ?_)
                          obtain ⟨wh3166, fh3166, x3167, rfl, lx3167, ux3167⟩ := qh3166
                          have hfh3166 := hfh3156.tr (fh3166.weak weak_PMq_PMk)
                          have Jh3166 := i1_fr fh3166 (by decide) (by decide) (by decide) (by decide) Jh3156
                          show TT _ _ _ _ _ _ _ _ [.inl x3167] _
                          refine tw_if (tgt := 267) (pc := 253) dX7_go_253 (by decide) (fun (c3168 : x3167.toInt = 0) => ?_) (fun (c3168 : ¬ (x3167.toInt = 0)) => ?_)
                          · skip
                            refine tt_aload_n (pc := 267) dX7_go_267 (.tail _ (.tail _ (.tail _ (.head _)))) ?_
                            refine tw_getr (pc := 268) dX7_go_268 flX7_83 wh3166 ta0 (by decide) rfl (fun f3169 q3170 ef3169 gf3169 tq3170 => ?_)
                            refine tt_iload_n (pc := 271) dX7_go_271 (.tail _ (.tail _ (.tail _ (.tail _ (.head _))))) ?_
                            refine tw_iconst (pc := 272) dX7_go_272 (by decide) (fun x3171 ex3171 => ?_)
                            refine tw_ist (P := (PEX 58)) (pc := 273) dX7_go_273 wh3166 tq3170 rfl (by omega) (by omega) (by omega) (by omega) (by decide) (fun f3172 h3173 eh3173 gh3173 kh3173 wh3173 fh3173 => ?_)
                            have hfh3173 := hfh3166.tr (fh3173.weak (weak_PEX (fun _ => rfl)))
                            have Jh3173 := i1_fr fh3173 (by decide) (by decide) (by decide) (by decide) Jh3166
                            obtain ⟨f3174, E3175, G3176⟩ := fr_fld fh3173 ta0 (by decide) ef3169 gf3169
                            refine tt_stop ?_
                            rw [hQ]
                            exact Or.inl ⟨dX7_go_274, rfl, rfl, wh3173, hfh3173, rfl⟩
                          · skip
                            refine tt_aload_n (pc := 256) dX7_go_256 (.tail _ (.tail _ (.tail _ (.head _)))) ?_
                            refine tw_getr (pc := 257) dX7_go_257 flX7_86 wh3166 ta0 (by decide) rfl (fun f3177 q3178 ef3177 gf3177 tq3178 => ?_)
                            refine tt_iload_n (pc := 260) dX7_go_260 (.tail _ (.tail _ (.tail _ (.tail _ (.head _))))) ?_
                            refine tt_iload (pc := 261) dX7_go_261 (.head _) ?_
                            refine tw_ist (P := (PEX 59)) (pc := 263) dX7_go_263 wh3166 tq3178 rfl (by omega) (by omega) (by omega) (by omega) (by decide) (fun f3179 h3180 eh3180 gh3180 kh3180 wh3180 fh3180 => ?_)
                            have hfh3180 := hfh3166.tr (fh3180.weak (weak_PEX (fun _ => rfl)))
                            have Jh3180 := i1_fr fh3180 (by decide) (by decide) (by decide) (by decide) Jh3166
                            obtain ⟨f3181, E3182, G3183⟩ := fr_fld fh3180 ta0 (by decide) ef3177 gf3177
                            refine tt_goto (tgt := 274) (pc := 264) dX7_go_264 (by decide) ?_
                            refine tt_stop ?_
                            rw [hQ]
                            exact Or.inl ⟨dX7_go_274, rfl, rfl, wh3180, hfh3180, rfl⟩
                      · skip
                        refine tt_aload_n (pc := 173) dX7_go_173 (.tail _ (.head _)) ?_
                        refine tw_getr (pc := 174) dX7_go_174 flX7_83 wh3078 ta0 (by decide) rfl (fun f3184 q3185 ef3184 gf3184 tq3185 => ?_)
                        refine tt_iload_n (pc := 177) dX7_go_177 (.tail _ (.tail _ (.head _))) ?_
                        refine tw_iconst (pc := 178) dX7_go_178 (by decide) (fun x3186 ex3186 => ?_)
                        refine tw_ist (P := (PEX 58)) (pc := 179) dX7_go_179 wh3078 tq3185 rfl (by omega) (by omega) (by omega) (by omega) (by decide) (fun f3187 h3188 eh3188 gh3188 kh3188 wh3188 fh3188 => ?_)
                        have hfh3188 := hfh3078.tr (fh3188.weak (weak_PEX (fun _ => rfl)))
                        have Jh3188 := i1_fr fh3188 (by decide) (by decide) (by decide) (by decide) Jh3078
                        obtain ⟨f3189, E3190, G3191⟩ := fr_fld fh3188 ta0 (by decide) ef3101 gf3101
                        have E3192 := fr_arrI fh3188 tq3102 (by decide) ef3104
                        obtain ⟨f3193, E3194, G3195⟩ := fr_fld fh3188 ta0 (by decide) ef3184 gf3184
                        refine tt_goto (tgt := 274) (pc := 180) dX7_go_180 (by decide) ?_
                        refine tt_stop ?_
                        rw [hQ]
                        exact Or.inl ⟨dX7_go_274, rfl, rfl, wh3188, hfh3188, rfl⟩
                    · skip
                      refine tt_aload_n (pc := 154) dX7_go_154 (.tail _ (.head _)) ?_
                      refine tw_getr (pc := 155) dX7_go_155 flX7_83 wh3078 ta0 (by decide) rfl (fun f3196 q3197 ef3196 gf3196 tq3197 => ?_)
                      refine tt_iload_n (pc := 158) dX7_go_158 (.tail _ (.tail _ (.head _))) ?_
                      refine tw_iconst (pc := 159) dX7_go_159 (by decide) (fun x3198 ex3198 => ?_)
                      refine tw_ist (P := (PEX 58)) (pc := 160) dX7_go_160 wh3078 tq3197 rfl (by omega) (by omega) (by omega) (by omega) (by decide) (fun f3199 h3200 eh3200 gh3200 kh3200 wh3200 fh3200 => ?_)
                      have hfh3200 := hfh3078.tr (fh3200.weak (weak_PEX (fun _ => rfl)))
                      have Jh3200 := i1_fr fh3200 (by decide) (by decide) (by decide) (by decide) Jh3078
                      obtain ⟨f3201, E3202, G3203⟩ := fr_fld fh3200 ta0 (by decide) ef3196 gf3196
                      refine tt_goto (tgt := 274) (pc := 161) dX7_go_161 (by decide) ?_
                      refine tt_stop ?_
                      rw [hQ]
                      exact Or.inl ⟨dX7_go_274, rfl, rfl, wh3200, hfh3200, rfl⟩
                · skip
                  exfalso
                  omega
            · skip
              refine tt_aload_n (pc := 100) dX7_go_100 (.tail _ (.head _)) ?_
              refine tw_getr (pc := 101) dX7_go_101 flX7_26 wh3078 ta0 (by decide) rfl (fun f3204 q3205 ef3204 gf3204 tq3205 => ?_)
              refine tt_iload (pc := 104) dX7_go_104 (.tail _ (.tail _ (.tail _ (.tail _ (.tail _ (.head _)))))) ?_
              refine tw_ild (pc := 106) dX7_go_106 wh3078 tq3205 rfl (by omega) (by omega) (fun f3207 x3206 ef3207 gf3207 lx3206 ux3206 => ?_)
              refine tt_iload_n (pc := 107) dX7_go_107 (.tail _ (.tail _ (.tail _ (.head _)))) ?_
              refine tw_icmp (tgt := 121) (pc := 108) dX7_go_108 (by decide) (fun (c3208 : x3206.toInt ≠ a2.toInt) => ?_) (fun (c3208 : ¬ (x3206.toInt ≠ a2.toInt)) => ?_)
              · skip
                refine tt_iload_n (pc := 121) dX7_go_121 (.tail _ (.tail _ (.tail _ (.tail _ (.head _))))) ?_
                refine tw_iconst (pc := 122) dX7_go_122 (by decide) (fun x3209 ex3209 => ?_)
                refine tw_icmp (tgt := 142) (pc := 123) dX7_go_123 (by decide) (fun (c3210 : a3.toInt = x3209.toInt) => ?_) (fun (c3210 : ¬ (a3.toInt = x3209.toInt)) => ?_)
                · skip
                  refine tt_iload (pc := 142) dX7_go_142 (.head _) ?_
                  refine tw_iconst (pc := 144) dX7_go_144 (by decide) (fun x3211 ex3211 => ?_)
                  refine tw_icmp (tgt := 154) (pc := 145) dX7_go_145 (by decide) (fun (c3212 : x3083.toInt = x3211.toInt) => ?_) (fun (c3212 : ¬ (x3083.toInt = x3211.toInt)) => ?_)
                  · skip
                    refine tt_aload_n (pc := 154) dX7_go_154 (.tail _ (.head _)) ?_
                    refine tw_getr (pc := 155) dX7_go_155 flX7_83 wh3078 ta0 (by decide) rfl (fun f3213 q3214 ef3213 gf3213 tq3214 => ?_)
                    refine tt_iload_n (pc := 158) dX7_go_158 (.tail _ (.tail _ (.head _))) ?_
                    refine tw_iconst (pc := 159) dX7_go_159 (by decide) (fun x3215 ex3215 => ?_)
                    refine tw_ist (P := (PEX 58)) (pc := 160) dX7_go_160 wh3078 tq3214 rfl (by omega) (by omega) (by omega) (by omega) (by decide) (fun f3216 h3217 eh3217 gh3217 kh3217 wh3217 fh3217 => ?_)
                    have hfh3217 := hfh3078.tr (fh3217.weak (weak_PEX (fun _ => rfl)))
                    have Jh3217 := i1_fr fh3217 (by decide) (by decide) (by decide) (by decide) Jh3078
                    obtain ⟨f3218, E3219, G3220⟩ := fr_fld fh3217 ta0 (by decide) ef3204 gf3204
                    have E3221 := fr_arrI fh3217 tq3205 (by decide) ef3207
                    obtain ⟨f3222, E3223, G3224⟩ := fr_fld fh3217 ta0 (by decide) ef3213 gf3213
                    refine tt_goto (tgt := 274) (pc := 161) dX7_go_161 (by decide) ?_
                    refine tt_stop ?_
                    rw [hQ]
                    exact Or.inl ⟨dX7_go_274, rfl, rfl, wh3217, hfh3217, rfl⟩
                  · skip
                    refine tt_iload (pc := 148) dX7_go_148 (.head _) ?_
                    refine tt_iload_n (pc := 150) dX7_go_150 (.tail _ (.tail _ (.tail _ (.head _)))) ?_
                    refine tw_icmp (tgt := 164) (pc := 151) dX7_go_151 (by decide) (fun (c3225 : x3083.toInt ≠ a2.toInt) => ?_) (fun (c3225 : ¬ (x3083.toInt ≠ a2.toInt)) => ?_)
                    · skip
                      refine tt_aload_n (pc := 164) dX7_go_164 (.tail _ (.head _)) ?_
                      refine tw_getr (pc := 165) dX7_go_165 flX7_77 wh3078 ta0 (by decide) rfl (fun f3226 q3227 ef3226 gf3226 tq3227 => ?_)
                      refine tt_iload_n (pc := 168) dX7_go_168 (.tail _ (.tail _ (.head _))) ?_
                      refine tw_ild (pc := 169) dX7_go_169 wh3078 tq3227 rfl (by omega) (by omega) (fun f3229 x3228 ef3229 gf3229 lx3228 ux3228 => ?_)
                      refine tw_if (tgt := 183) (pc := 170) dX7_go_170 (by decide) (fun (c3230 : x3228.toInt ≠ 0) => ?_) (fun (c3230 : ¬ (x3228.toInt ≠ 0)) => ?_)
                      · skip
                        refine tt_aload_n (pc := 183) dX7_go_183 (.tail _ (.head _)) ?_
                        refine tt_iload_n (pc := 184) dX7_go_184 (.tail _ (.tail _ (.tail _ (.head _)))) ?_
                        refine tt_iload (pc := 185) dX7_go_185 (.head _) ?_
                        obtain ⟨l0, hH⟩ := hopw_of hwb hN2 hN8 hIb ta0 iFh3078 jFh3078 kFh3078 fh3078 (r := a2.toInt.toNat) (e := x3083.toInt.toNat) (by omega) (by omega) (by omega) (Dx3083 (by omega))
                        refine tw_callV (kc := 0) (ks := 0) (mc := 0) (ms := 0) (as := [.inl a2, .inl x3083]) (st := []) (pc := 187) wh3078 ta0 (by decide) dX7_go_187 lkX7_142 imX7_hop seX7_hop rfl rfl (by decide) (by decide) (Nat.le_of_ble_eq_true rfl) (g_X7_hopW hN2 hN8 hp0 hp64 wh3078 a0 ta0 a2 (by omega) (by omega) x3083 (by omega) (by omega) hFh3078 iFh3078.1 (by omega) (Dx3083 (by omega)) hH) (fun rv h3231 qh3231 => ?_)
                        obtain ⟨rfl, x3232, rfl, lx3232, ux3232⟩ := qh3231
                        show TT _ _ _ _ _ _ _ _ [.inl x3232] _
                        refine tt_istore (pc := 190) dX7_go_190 (by decide) ?_
                        show TT _ _ _ _ _ _ _ [(6, .inl x3232), (5, .inl x3083), (0, .inr (some a0)), (1, .inl a1), (2, .inl a2), (3, .inl a3), (4, .inl x2745)] _ _
                        refine tt_aload_n (pc := 192) dX7_go_192 (.tail _ (.tail _ (.head _))) ?_
                        refine tw_getr (pc := 193) dX7_go_193 flX7_56 wh3078 ta0 (by decide) rfl (fun f3233 q3234 ef3233 gf3233 tq3234 => ?_)
                        refine tt_aload_n (pc := 196) dX7_go_196 (.tail _ (.tail _ (.head _))) ?_
                        refine tt_iload_n (pc := 197) dX7_go_197 (.tail _ (.tail _ (.tail _ (.tail _ (.head _))))) ?_
                        refine tt_iload (pc := 198) dX7_go_198 (.tail _ (.tail _ (.tail _ (.tail _ (.tail _ (.tail _ (.head _))))))) ?_
                        refine tt_iload (pc := 200) dX7_go_200 (.head _) ?_
                        refine tw_callV (kc := 0) (ks := 0) (mc := 0) (ms := 0) (as := [.inl a2, .inl x2745, .inl x3232]) (st := [.inr (some q3234)]) (pc := 202) wh3078 ta0 (by decide) dX7_go_202 lkX7_145 imX7_slot seX7_slot rfl rfl (by decide) (by decide) (Nat.le_of_ble_eq_true rfl) (g_X7_slot hN2 hN8 hp0 hp64 wh3078 a0 ta0 a2 (by omega) (by omega) x2745 (by omega) (by omega) x3232 (by omega) (by omega)) (fun rv h3235 qh3235 => ?_)
                        obtain ⟨rfl, x3236, rfl, lx3236, ux3236⟩ := qh3235
                        show TT _ _ _ _ _ _ _ _ [.inl x3236, .inr (some q3234)] _
                        refine tw_ild (pc := 205) dX7_go_205 wh3078 tq3234 rfl (by omega) (by omega) (fun f3238 x3237 ef3238 gf3238 lx3237 ux3237 => ?_)
                        refine tw_bipush (pc := 206) dX7_go_206 (by decide) (fun x3239 ex3239 => ?_)
                        refine tw_icmp (tgt := 215) (pc := 208) dX7_go_208 (by decide) (fun (c3240 : x3239.toInt ≤ x3237.toInt) => ?_) (fun (c3240 : ¬ (x3239.toInt ≤ x3237.toInt)) => ?_)
                        · skip
                          refine tt_aload_n (pc := 215) dX7_go_215 (.tail _ (.tail _ (.head _))) ?_
                          refine tt_get (pc := 216) dX7_go_216 flX7_56 ef3233 gf3233 ?_
                          refine tt_aload_n (pc := 219) dX7_go_219 (.tail _ (.tail _ (.head _))) ?_
                          refine tt_iload_n (pc := 220) dX7_go_220 (.tail _ (.tail _ (.tail _ (.tail _ (.head _))))) ?_
                          refine tt_iload (pc := 221) dX7_go_221 (.tail _ (.tail _ (.tail _ (.tail _ (.tail _ (.tail _ (.head _))))))) ?_
                          refine tt_iload (pc := 223) dX7_go_223 (.head _) ?_
                          refine tw_callV (kc := 0) (ks := 0) (mc := 0) (ms := 0) (as := [.inl a2, .inl x2745, .inl x3232]) (st := [.inr (some q3234)]) (pc := 225) wh3078 ta0 (by decide) dX7_go_225 lkX7_145 imX7_slot seX7_slot rfl rfl (by decide) (by decide) (Nat.le_of_ble_eq_true rfl) (g_X7_slot hN2 hN8 hp0 hp64 wh3078 a0 ta0 a2 (by omega) (by omega) x2745 (by omega) (by omega) x3232 (by omega) (by omega)) (fun rv h3241 qh3241 => ?_)
                          obtain ⟨rfl, x3242, rfl, lx3242, ux3242⟩ := qh3241
                          show TT _ _ _ _ _ _ _ _ [.inl x3242, .inr (some q3234)] _
                          refine tw_ild (pc := 228) dX7_go_228 wh3078 tq3234 rfl (by omega) (by omega) (fun f3244 x3243 ef3244 gf3244 lx3243 ux3243 => ?_)
                          refine tt_istore (pc := 229) dX7_go_229 (by decide) ?_
                          show TT _ _ _ _ _ _ _ [(7, .inl x3243), (6, .inl x3232), (5, .inl x3083), (0, .inr (some a0)), (1, .inl a1), (2, .inl a2), (3, .inl a3), (4, .inl x2745)] _ _
                          refine tt_aload_n (pc := 231) dX7_go_231 (.tail _ (.tail _ (.tail _ (.head _)))) ?_
                          refine tt_get (pc := 232) dX7_go_232 flX7_77 ef3226 gf3226 ?_
                          refine tt_iload_n (pc := 235) dX7_go_235 (.tail _ (.tail _ (.tail _ (.tail _ (.head _))))) ?_
                          refine tt_dup2 (pc := 236) dX7_go_236 ?_
                          refine tt_iald (pc := 237) dX7_go_237 ef3229 (i_nn (by omega)) gf3229 ?_
                          refine tw_iconst (pc := 238) dX7_go_238 (by decide) (fun x3245 ex3245 => ?_)
                          refine tt_isub (pc := 239) dX7_go_239 ?_
                          refine tw_any (fun x3246 => ?_)
                          have bx3246 := i_ty x3246
                          refine tw_ist (P := (PEX 56)) (pc := 240) dX7_go_240 wh3078 tq3227 rfl (by omega) (by omega) (by omega) (by omega) (by decide) (fun f3247 h3248 eh3248 gh3248 kh3248 wh3248 fh3248 => ?_)
                          have hfh3248 := hfh3078.tr (fh3248.weak (weak_PEX (fun _ => rfl)))
                          have Jh3248 := i1_fr fh3248 (by decide) (by decide) (by decide) (by decide) Jh3078
                          obtain ⟨f3249, E3250, G3251⟩ := fr_fld fh3248 ta0 (by decide) ef3204 gf3204
                          have E3252 := fr_arrI fh3248 tq3205 (by decide) ef3207
                          obtain ⟨f3253, E3254, G3255⟩ := fr_fld fh3248 ta0 (by decide) ef3226 gf3226
                          obtain ⟨f3256, E3257, G3258⟩ := fr_fld fh3248 ta0 (by decide) ef3233 gf3233
                          have E3259 := fr_arrI fh3248 tq3234 (by decide) ef3238
                          have E3260 := fr_arrI fh3248 tq3234 (by decide) ef3244
                          refine tt_aload_n (pc := 241) dX7_go_241 (.tail _ (.tail _ (.tail _ (.head _)))) ?_
                          refine tt_iload_n (pc := 242) dX7_go_242 (.tail _ (.tail _ (.tail _ (.tail _ (.tail _ (.head _)))))) ?_
                          refine tt_iload (pc := 243) dX7_go_243 (.tail _ (.head _)) ?_
                          refine tw_iconst (pc := 245) dX7_go_245 (by decide) (fun x3261 ex3261 => ?_)
                          refine tt_iload_n (pc := 246) dX7_go_246 (.tail _ (.tail _ (.tail _ (.tail _ (.head _))))) ?_
                          refine tt_iload (pc := 247) dX7_go_247 (.head _) ?_
                          refine tw_iconst (pc := 249) dX7_go_249 (by decide) (fun x3262 ex3262 => ?_)
                          refine tw_callV (kc := 0) (ks := 0) (mc := 0) (ms := 0) (as := [.inl a2, .inl x3232, .inl x3261, .inl a1, .inl x3243, .inl x3262]) (st := []) (pc := 250) wh3248 ta0 (by decide) dX7_go_250 lkX7_103 imX7_put seX7_put rfl rfl (by decide) (by decide) (Nat.le_of_ble_eq_true rfl) (g_X7_putC hN2 hN8 hp0 hp64 wh3248 a0 ta0 a2 x3232 (by omega) (by omega) x3261 (by omega) (by omega) a1 (by omega) (by omega) x3243 (by omega) (by omega) x3262) (fun rv h3263 qh3263 => ?_)
                          obtain ⟨wh3263, fh3263, x3264, rfl, lx3264, ux3264⟩ := qh3263
                          have hfh3263 := hfh3248.tr (fh3263.weak weak_PMq_PMk)
                          have Jh3263 := i1_fr fh3263 (by decide) (by decide) (by decide) (by decide) Jh3248
                          show TT _ _ _ _ _ _ _ _ [.inl x3264] _
                          refine tw_if (tgt := 267) (pc := 253) dX7_go_253 (by decide) (fun (c3265 : x3264.toInt = 0) => ?_) (fun (c3265 : ¬ (x3264.toInt = 0)) => ?_)
                          · skip
                            refine tt_aload_n (pc := 267) dX7_go_267 (.tail _ (.tail _ (.tail _ (.head _)))) ?_
                            refine tw_getr (pc := 268) dX7_go_268 flX7_83 wh3263 ta0 (by decide) rfl (fun f3266 q3267 ef3266 gf3266 tq3267 => ?_)
                            refine tt_iload_n (pc := 271) dX7_go_271 (.tail _ (.tail _ (.tail _ (.tail _ (.head _))))) ?_
                            refine tw_iconst (pc := 272) dX7_go_272 (by decide) (fun x3268 ex3268 => ?_)
                            refine tw_ist (P := (PEX 58)) (pc := 273) dX7_go_273 wh3263 tq3267 rfl (by omega) (by omega) (by omega) (by omega) (by decide) (fun f3269 h3270 eh3270 gh3270 kh3270 wh3270 fh3270 => ?_)
                            have hfh3270 := hfh3263.tr (fh3270.weak (weak_PEX (fun _ => rfl)))
                            have Jh3270 := i1_fr fh3270 (by decide) (by decide) (by decide) (by decide) Jh3263
                            obtain ⟨f3271, E3272, G3273⟩ := fr_fld fh3270 ta0 (by decide) ef3266 gf3266
                            refine tt_stop ?_
                            rw [hQ]
                            exact Or.inl ⟨dX7_go_274, rfl, rfl, wh3270, hfh3270, rfl⟩
                          · skip
                            refine tt_aload_n (pc := 256) dX7_go_256 (.tail _ (.tail _ (.tail _ (.head _)))) ?_
                            refine tw_getr (pc := 257) dX7_go_257 flX7_86 wh3263 ta0 (by decide) rfl (fun f3274 q3275 ef3274 gf3274 tq3275 => ?_)
                            refine tt_iload_n (pc := 260) dX7_go_260 (.tail _ (.tail _ (.tail _ (.tail _ (.head _))))) ?_
                            refine tt_iload (pc := 261) dX7_go_261 (.head _) ?_
                            refine tw_ist (P := (PEX 59)) (pc := 263) dX7_go_263 wh3263 tq3275 rfl (by omega) (by omega) (by omega) (by omega) (by decide) (fun f3276 h3277 eh3277 gh3277 kh3277 wh3277 fh3277 => ?_)
                            have hfh3277 := hfh3263.tr (fh3277.weak (weak_PEX (fun _ => rfl)))
                            have Jh3277 := i1_fr fh3277 (by decide) (by decide) (by decide) (by decide) Jh3263
                            obtain ⟨f3278, E3279, G3280⟩ := fr_fld fh3277 ta0 (by decide) ef3274 gf3274
                            refine tt_goto (tgt := 274) (pc := 264) dX7_go_264 (by decide) ?_
                            refine tt_stop ?_
                            rw [hQ]
                            exact Or.inl ⟨dX7_go_274, rfl, rfl, wh3277, hfh3277, rfl⟩
                        · skip
                          refine tw_iconst (pc := 211) dX7_go_211 (by decide) (fun x3281 ex3281 => ?_)
                          refine tt_goto (tgt := 229) (pc := 212) dX7_go_212 (by decide) ?_
                          refine tt_istore (pc := 229) dX7_go_229 (by decide) ?_
                          show TT _ _ _ _ _ _ _ [(7, .inl x3281), (6, .inl x3232), (5, .inl x3083), (0, .inr (some a0)), (1, .inl a1), (2, .inl a2), (3, .inl a3), (4, .inl x2745)] _ _
                          refine tt_aload_n (pc := 231) dX7_go_231 (.tail _ (.tail _ (.tail _ (.head _)))) ?_
                          refine tt_get (pc := 232) dX7_go_232 flX7_77 ef3226 gf3226 ?_
                          refine tt_iload_n (pc := 235) dX7_go_235 (.tail _ (.tail _ (.tail _ (.tail _ (.head _))))) ?_
                          refine tt_dup2 (pc := 236) dX7_go_236 ?_
                          refine tt_iald (pc := 237) dX7_go_237 ef3229 (i_nn (by omega)) gf3229 ?_
                          refine tw_iconst (pc := 238) dX7_go_238 (by decide) (fun x3282 ex3282 => ?_)
                          refine tt_isub (pc := 239) dX7_go_239 ?_
                          refine tw_any (fun x3283 => ?_)
                          have bx3283 := i_ty x3283
                          refine tw_ist (P := (PEX 56)) (pc := 240) dX7_go_240 wh3078 tq3227 rfl (by omega) (by omega) (by omega) (by omega) (by decide) (fun f3284 h3285 eh3285 gh3285 kh3285 wh3285 fh3285 => ?_)
                          have hfh3285 := hfh3078.tr (fh3285.weak (weak_PEX (fun _ => rfl)))
                          have Jh3285 := i1_fr fh3285 (by decide) (by decide) (by decide) (by decide) Jh3078
                          obtain ⟨f3286, E3287, G3288⟩ := fr_fld fh3285 ta0 (by decide) ef3204 gf3204
                          have E3289 := fr_arrI fh3285 tq3205 (by decide) ef3207
                          obtain ⟨f3290, E3291, G3292⟩ := fr_fld fh3285 ta0 (by decide) ef3226 gf3226
                          obtain ⟨f3293, E3294, G3295⟩ := fr_fld fh3285 ta0 (by decide) ef3233 gf3233
                          have E3296 := fr_arrI fh3285 tq3234 (by decide) ef3238
                          refine tt_aload_n (pc := 241) dX7_go_241 (.tail _ (.tail _ (.tail _ (.head _)))) ?_
                          refine tt_iload_n (pc := 242) dX7_go_242 (.tail _ (.tail _ (.tail _ (.tail _ (.tail _ (.head _)))))) ?_
                          refine tt_iload (pc := 243) dX7_go_243 (.tail _ (.head _)) ?_
                          refine tw_iconst (pc := 245) dX7_go_245 (by decide) (fun x3297 ex3297 => ?_)
                          refine tt_iload_n (pc := 246) dX7_go_246 (.tail _ (.tail _ (.tail _ (.tail _ (.head _))))) ?_
                          refine tt_iload (pc := 247) dX7_go_247 (.head _) ?_
                          refine tw_iconst (pc := 249) dX7_go_249 (by decide) (fun x3298 ex3298 => ?_)
                          refine tw_callV (kc := 0) (ks := 0) (mc := 0) (ms := 0) (as := [.inl a2, .inl x3232, .inl x3297, .inl a1, .inl x3281, .inl x3298]) (st := []) (pc := 250) wh3285 ta0 (by decide) dX7_go_250 lkX7_103 imX7_put seX7_put rfl rfl (by decide) (by decide) (Nat.le_of_ble_eq_true rfl) (g_X7_putC hN2 hN8 hp0 hp64 wh3285 a0 ta0 a2 x3232 (by omega) (by omega) x3297 (by omega) (by omega) a1 (by omega) (by omega) x3281 (by omega) (by omega) x3298) (fun rv h3299 qh3299 => ?_)
                          obtain ⟨wh3299, fh3299, x3300, rfl, lx3300, ux3300⟩ := qh3299
                          have hfh3299 := hfh3285.tr (fh3299.weak weak_PMq_PMk)
                          have Jh3299 := i1_fr fh3299 (by decide) (by decide) (by decide) (by decide) Jh3285
                          show TT _ _ _ _ _ _ _ _ [.inl x3300] _
                          refine tw_if (tgt := 267) (pc := 253) dX7_go_253 (by decide) (fun (c3301 : x3300.toInt = 0) => ?_) (fun (c3301 : ¬ (x3300.toInt = 0)) => ?_)
                          · skip
                            refine tt_aload_n (pc := 267) dX7_go_267 (.tail _ (.tail _ (.tail _ (.head _)))) ?_
                            refine tw_getr (pc := 268) dX7_go_268 flX7_83 wh3299 ta0 (by decide) rfl (fun f3302 q3303 ef3302 gf3302 tq3303 => ?_)
                            refine tt_iload_n (pc := 271) dX7_go_271 (.tail _ (.tail _ (.tail _ (.tail _ (.head _))))) ?_
                            refine tw_iconst (pc := 272) dX7_go_272 (by decide) (fun x3304 ex3304 => ?_)
                            refine tw_ist (P := (PEX 58)) (pc := 273) dX7_go_273 wh3299 tq3303 rfl (by omega) (by omega) (by omega) (by omega) (by decide) (fun f3305 h3306 eh3306 gh3306 kh3306 wh3306 fh3306 => ?_)
                            have hfh3306 := hfh3299.tr (fh3306.weak (weak_PEX (fun _ => rfl)))
                            have Jh3306 := i1_fr fh3306 (by decide) (by decide) (by decide) (by decide) Jh3299
                            obtain ⟨f3307, E3308, G3309⟩ := fr_fld fh3306 ta0 (by decide) ef3302 gf3302
                            refine tt_stop ?_
                            rw [hQ]
                            exact Or.inl ⟨dX7_go_274, rfl, rfl, wh3306, hfh3306, rfl⟩
                          · skip
                            refine tt_aload_n (pc := 256) dX7_go_256 (.tail _ (.tail _ (.tail _ (.head _)))) ?_
                            refine tw_getr (pc := 257) dX7_go_257 flX7_86 wh3299 ta0 (by decide) rfl (fun f3310 q3311 ef3310 gf3310 tq3311 => ?_)
                            refine tt_iload_n (pc := 260) dX7_go_260 (.tail _ (.tail _ (.tail _ (.tail _ (.head _))))) ?_
                            refine tt_iload (pc := 261) dX7_go_261 (.head _) ?_
                            refine tw_ist (P := (PEX 59)) (pc := 263) dX7_go_263 wh3299 tq3311 rfl (by omega) (by omega) (by omega) (by omega) (by decide) (fun f3312 h3313 eh3313 gh3313 kh3313 wh3313 fh3313 => ?_)
                            have hfh3313 := hfh3299.tr (fh3313.weak (weak_PEX (fun _ => rfl)))
                            have Jh3313 := i1_fr fh3313 (by decide) (by decide) (by decide) (by decide) Jh3299
                            obtain ⟨f3314, E3315, G3316⟩ := fr_fld fh3313 ta0 (by decide) ef3310 gf3310
                            refine tt_goto (tgt := 274) (pc := 264) dX7_go_264 (by decide) ?_
                            refine tt_stop ?_
                            rw [hQ]
                            exact Or.inl ⟨dX7_go_274, rfl, rfl, wh3313, hfh3313, rfl⟩
                      · skip
                        refine tt_aload_n (pc := 173) dX7_go_173 (.tail _ (.head _)) ?_
                        refine tw_getr (pc := 174) dX7_go_174 flX7_83 wh3078 ta0 (by decide) rfl (fun f3317 q3318 ef3317 gf3317 tq3318 => ?_)
                        refine tt_iload_n (pc := 177) dX7_go_177 (.tail _ (.tail _ (.head _))) ?_
                        refine tw_iconst (pc := 178) dX7_go_178 (by decide) (fun x3319 ex3319 => ?_)
                        refine tw_ist (P := (PEX 58)) (pc := 179) dX7_go_179 wh3078 tq3318 rfl (by omega) (by omega) (by omega) (by omega) (by decide) (fun f3320 h3321 eh3321 gh3321 kh3321 wh3321 fh3321 => ?_)
                        have hfh3321 := hfh3078.tr (fh3321.weak (weak_PEX (fun _ => rfl)))
                        have Jh3321 := i1_fr fh3321 (by decide) (by decide) (by decide) (by decide) Jh3078
                        obtain ⟨f3322, E3323, G3324⟩ := fr_fld fh3321 ta0 (by decide) ef3204 gf3204
                        have E3325 := fr_arrI fh3321 tq3205 (by decide) ef3207
                        obtain ⟨f3326, E3327, G3328⟩ := fr_fld fh3321 ta0 (by decide) ef3226 gf3226
                        have E3329 := fr_arrI fh3321 tq3227 (by decide) ef3229
                        obtain ⟨f3330, E3331, G3332⟩ := fr_fld fh3321 ta0 (by decide) ef3317 gf3317
                        refine tt_goto (tgt := 274) (pc := 180) dX7_go_180 (by decide) ?_
                        refine tt_stop ?_
                        rw [hQ]
                        exact Or.inl ⟨dX7_go_274, rfl, rfl, wh3321, hfh3321, rfl⟩
                    · skip
                      refine tt_aload_n (pc := 154) dX7_go_154 (.tail _ (.head _)) ?_
                      refine tw_getr (pc := 155) dX7_go_155 flX7_83 wh3078 ta0 (by decide) rfl (fun f3333 q3334 ef3333 gf3333 tq3334 => ?_)
                      refine tt_iload_n (pc := 158) dX7_go_158 (.tail _ (.tail _ (.head _))) ?_
                      refine tw_iconst (pc := 159) dX7_go_159 (by decide) (fun x3335 ex3335 => ?_)
                      refine tw_ist (P := (PEX 58)) (pc := 160) dX7_go_160 wh3078 tq3334 rfl (by omega) (by omega) (by omega) (by omega) (by decide) (fun f3336 h3337 eh3337 gh3337 kh3337 wh3337 fh3337 => ?_)
                      have hfh3337 := hfh3078.tr (fh3337.weak (weak_PEX (fun _ => rfl)))
                      have Jh3337 := i1_fr fh3337 (by decide) (by decide) (by decide) (by decide) Jh3078
                      obtain ⟨f3338, E3339, G3340⟩ := fr_fld fh3337 ta0 (by decide) ef3204 gf3204
                      have E3341 := fr_arrI fh3337 tq3205 (by decide) ef3207
                      obtain ⟨f3342, E3343, G3344⟩ := fr_fld fh3337 ta0 (by decide) ef3333 gf3333
                      refine tt_goto (tgt := 274) (pc := 161) dX7_go_161 (by decide) ?_
                      refine tt_stop ?_
                      rw [hQ]
                      exact Or.inl ⟨dX7_go_274, rfl, rfl, wh3337, hfh3337, rfl⟩
                · skip
                  exfalso
                  omega
              · skip
                refine tt_aload_n (pc := 111) dX7_go_111 (.tail _ (.head _)) ?_
                refine tw_getr (pc := 112) dX7_go_112 flX7_83 wh3078 ta0 (by decide) rfl (fun f3345 q3346 ef3345 gf3345 tq3346 => ?_)
                refine tt_iload_n (pc := 115) dX7_go_115 (.tail _ (.tail _ (.head _))) ?_
                refine tw_iconst (pc := 116) dX7_go_116 (by decide) (fun x3347 ex3347 => ?_)
                refine tw_ist (P := (PEX 58)) (pc := 117) dX7_go_117 wh3078 tq3346 rfl (by omega) (by omega) (by omega) (by omega) (by decide) (fun f3348 h3349 eh3349 gh3349 kh3349 wh3349 fh3349 => ?_)
                have hfh3349 := hfh3078.tr (fh3349.weak (weak_PEX (fun _ => rfl)))
                have Jh3349 := i1_fr fh3349 (by decide) (by decide) (by decide) (by decide) Jh3078
                obtain ⟨f3350, E3351, G3352⟩ := fr_fld fh3349 ta0 (by decide) ef3204 gf3204
                have E3353 := fr_arrI fh3349 tq3205 (by decide) ef3207
                obtain ⟨f3354, E3355, G3356⟩ := fr_fld fh3349 ta0 (by decide) ef3345 gf3345
                refine tt_goto (tgt := 274) (pc := 118) dX7_go_118 (by decide) ?_
                refine tt_stop ?_
                rw [hQ]
                exact Or.inl ⟨dX7_go_274, rfl, rfl, wh3349, hfh3349, rfl⟩
          · skip
            refine tw_iconst (pc := 82) dX7_go_82 (by decide) (fun x3357 ex3357 => ?_)
            refine tt_goto (tgt := 93) (pc := 83) dX7_go_83 (by decide) ?_
            refine tt_istore (pc := 93) dX7_go_93 (by decide) ?_
            show TT _ _ _ _ _ _ _ [(5, .inl x3357), (0, .inr (some a0)), (1, .inl a1), (2, .inl a2), (3, .inl a3), (4, .inl x2745)] _ _
            refine tt_iload_n (pc := 95) dX7_go_95 (.tail _ (.tail _ (.tail _ (.tail _ (.head _))))) ?_
            refine tw_iconst (pc := 96) dX7_go_96 (by decide) (fun x3358 ex3358 => ?_)
            refine tw_icmp (tgt := 121) (pc := 97) dX7_go_97 (by decide) (fun (c3359 : a3.toInt ≠ x3358.toInt) => ?_) (fun (c3359 : ¬ (a3.toInt ≠ x3358.toInt)) => ?_)
            · skip
              refine tt_iload_n (pc := 121) dX7_go_121 (.tail _ (.tail _ (.tail _ (.tail _ (.head _))))) ?_
              refine tw_iconst (pc := 122) dX7_go_122 (by decide) (fun x3360 ex3360 => ?_)
              refine tw_icmp (tgt := 142) (pc := 123) dX7_go_123 (by decide) (fun (c3361 : a3.toInt = x3360.toInt) => ?_) (fun (c3361 : ¬ (a3.toInt = x3360.toInt)) => ?_)
              · skip
                exfalso
                omega
              · skip
                refine tt_iload (pc := 126) dX7_go_126 (.tail _ (.tail _ (.tail _ (.tail _ (.tail _ (.head _)))))) ?_
                refine tw_iconst (pc := 128) dX7_go_128 (by decide) (fun x3362 ex3362 => ?_)
                refine tw_icmp (tgt := 142) (pc := 129) dX7_go_129 (by decide) (fun (c3363 : x2745.toInt ≠ x3362.toInt) => ?_) (fun (c3363 : ¬ (x2745.toInt ≠ x3362.toInt)) => ?_)
                · skip
                  exfalso
                  omega
                · skip
                  refine tt_aload_n (pc := 132) dX7_go_132 (.tail _ (.head _)) ?_
                  refine tw_getr (pc := 133) dX7_go_133 flX7_83 wh3078 ta0 (by decide) rfl (fun f3364 q3365 ef3364 gf3364 tq3365 => ?_)
                  refine tt_iload_n (pc := 136) dX7_go_136 (.tail _ (.tail _ (.head _))) ?_
                  refine tw_iconst (pc := 137) dX7_go_137 (by decide) (fun x3366 ex3366 => ?_)
                  refine tw_ist (P := (PEX 58)) (pc := 138) dX7_go_138 wh3078 tq3365 rfl (by omega) (by omega) (by omega) (by omega) (by decide) (fun f3367 h3368 eh3368 gh3368 kh3368 wh3368 fh3368 => ?_)
                  have hfh3368 := hfh3078.tr (fh3368.weak (weak_PEX (fun _ => rfl)))
                  have Jh3368 := i1_fr fh3368 (by decide) (by decide) (by decide) (by decide) Jh3078
                  obtain ⟨f3369, E3370, G3371⟩ := fr_fld fh3368 ta0 (by decide) ef3364 gf3364
                  refine tt_goto (tgt := 274) (pc := 139) dX7_go_139 (by decide) ?_
                  refine tt_stop ?_
                  rw [hQ]
                  exact Or.inl ⟨dX7_go_274, rfl, rfl, wh3368, hfh3368, rfl⟩
            · skip
              refine tt_aload_n (pc := 100) dX7_go_100 (.tail _ (.head _)) ?_
              refine tw_getr (pc := 101) dX7_go_101 flX7_26 wh3078 ta0 (by decide) rfl (fun f3372 q3373 ef3372 gf3372 tq3373 => ?_)
              refine tt_iload (pc := 104) dX7_go_104 (.tail _ (.tail _ (.tail _ (.tail _ (.tail _ (.head _)))))) ?_
              refine tw_ild (pc := 106) dX7_go_106 wh3078 tq3373 rfl (by omega) (by omega) (fun f3375 x3374 ef3375 gf3375 lx3374 ux3374 => ?_)
              refine tt_iload_n (pc := 107) dX7_go_107 (.tail _ (.tail _ (.tail _ (.head _)))) ?_
              refine tw_icmp (tgt := 121) (pc := 108) dX7_go_108 (by decide) (fun (c3376 : x3374.toInt ≠ a2.toInt) => ?_) (fun (c3376 : ¬ (x3374.toInt ≠ a2.toInt)) => ?_)
              · skip
                refine tt_iload_n (pc := 121) dX7_go_121 (.tail _ (.tail _ (.tail _ (.tail _ (.head _))))) ?_
                refine tw_iconst (pc := 122) dX7_go_122 (by decide) (fun x3377 ex3377 => ?_)
                refine tw_icmp (tgt := 142) (pc := 123) dX7_go_123 (by decide) (fun (c3378 : a3.toInt = x3377.toInt) => ?_) (fun (c3378 : ¬ (a3.toInt = x3377.toInt)) => ?_)
                · skip
                  refine tt_iload (pc := 142) dX7_go_142 (.head _) ?_
                  refine tw_iconst (pc := 144) dX7_go_144 (by decide) (fun x3379 ex3379 => ?_)
                  refine tw_icmp (tgt := 154) (pc := 145) dX7_go_145 (by decide) (fun (c3380 : x3357.toInt = x3379.toInt) => ?_) (fun (c3380 : ¬ (x3357.toInt = x3379.toInt)) => ?_)
                  · skip
                    refine tt_aload_n (pc := 154) dX7_go_154 (.tail _ (.head _)) ?_
                    refine tw_getr (pc := 155) dX7_go_155 flX7_83 wh3078 ta0 (by decide) rfl (fun f3381 q3382 ef3381 gf3381 tq3382 => ?_)
                    refine tt_iload_n (pc := 158) dX7_go_158 (.tail _ (.tail _ (.head _))) ?_
                    refine tw_iconst (pc := 159) dX7_go_159 (by decide) (fun x3383 ex3383 => ?_)
                    refine tw_ist (P := (PEX 58)) (pc := 160) dX7_go_160 wh3078 tq3382 rfl (by omega) (by omega) (by omega) (by omega) (by decide) (fun f3384 h3385 eh3385 gh3385 kh3385 wh3385 fh3385 => ?_)
                    have hfh3385 := hfh3078.tr (fh3385.weak (weak_PEX (fun _ => rfl)))
                    have Jh3385 := i1_fr fh3385 (by decide) (by decide) (by decide) (by decide) Jh3078
                    obtain ⟨f3386, E3387, G3388⟩ := fr_fld fh3385 ta0 (by decide) ef3372 gf3372
                    have E3389 := fr_arrI fh3385 tq3373 (by decide) ef3375
                    obtain ⟨f3390, E3391, G3392⟩ := fr_fld fh3385 ta0 (by decide) ef3381 gf3381
                    refine tt_goto (tgt := 274) (pc := 161) dX7_go_161 (by decide) ?_
                    refine tt_stop ?_
                    rw [hQ]
                    exact Or.inl ⟨dX7_go_274, rfl, rfl, wh3385, hfh3385, rfl⟩
                  · skip
                    exfalso
                    omega
                · skip
                  exfalso
                  omega
              · skip
                refine tt_aload_n (pc := 111) dX7_go_111 (.tail _ (.head _)) ?_
                refine tw_getr (pc := 112) dX7_go_112 flX7_83 wh3078 ta0 (by decide) rfl (fun f3393 q3394 ef3393 gf3393 tq3394 => ?_)
                refine tt_iload_n (pc := 115) dX7_go_115 (.tail _ (.tail _ (.head _))) ?_
                refine tw_iconst (pc := 116) dX7_go_116 (by decide) (fun x3395 ex3395 => ?_)
                refine tw_ist (P := (PEX 58)) (pc := 117) dX7_go_117 wh3078 tq3394 rfl (by omega) (by omega) (by omega) (by omega) (by decide) (fun f3396 h3397 eh3397 gh3397 kh3397 wh3397 fh3397 => ?_)
                have hfh3397 := hfh3078.tr (fh3397.weak (weak_PEX (fun _ => rfl)))
                have Jh3397 := i1_fr fh3397 (by decide) (by decide) (by decide) (by decide) Jh3078
                obtain ⟨f3398, E3399, G3400⟩ := fr_fld fh3397 ta0 (by decide) ef3372 gf3372
                have E3401 := fr_arrI fh3397 tq3373 (by decide) ef3375
                obtain ⟨f3402, E3403, G3404⟩ := fr_fld fh3397 ta0 (by decide) ef3393 gf3393
                refine tt_goto (tgt := 274) (pc := 118) dX7_go_118 (by decide) ?_
                refine tt_stop ?_
                rw [hQ]
                exact Or.inl ⟨dX7_go_274, rfl, rfl, wh3397, hfh3397, rfl⟩
        · skip
          refine tt_aload_n (pc := 40) dX7_go_40 (.head _) ?_
          refine tw_getr (pc := 41) dX7_go_41 flX7_62 hwb ta0 (by decide) rfl (fun f3405 q3406 ef3405 gf3405 tq3406 => ?_)
          refine tw_bipush (pc := 44) dX7_go_44 (by decide) (fun x3407 ex3407 => ?_)
          refine tt_iload_n (pc := 46) dX7_go_46 (.tail _ (.tail _ (.head _))) ?_
          refine tw_imul (c := 8) (pc := 47) dX7_go_47 (by omega) (by omega) (fun x3408 ex3408 => ?_)
          refine tt_iload (pc := 48) dX7_go_48 (.tail _ (.tail _ (.tail _ (.tail _ (.tail _ (.head _)))))) ?_
          refine tw_iadd (pc := 50) dX7_go_50 (by omega) (fun x3409 ex3409 => ?_)
          refine tw_ild (pc := 51) dX7_go_51 hwb tq3406 rfl (by omega) (by omega) (fun f3411 x3410 ef3411 gf3411 lx3410 ux3410 => ?_)
          refine tt_iload_n (pc := 52) dX7_go_52 (.tail _ (.tail _ (.tail _ (.head _)))) ?_
          refine tw_icmp (tgt := 61) (pc := 53) dX7_go_53 (by decide) (fun (c3412 : x3410.toInt ≠ a3.toInt) => ?_) (fun (c3412 : ¬ (x3410.toInt ≠ a3.toInt)) => ?_)
          · skip
            refine tt_iload (pc := 61) dX7_go_61 (.tail _ (.tail _ (.tail _ (.tail _ (.head _))))) ?_
            refine tt_istore (pc := 63) dX7_go_63 (by decide) ?_
            show TT _ _ _ _ _ _ _ [(4, .inl x2745), (0, .inr (some a0)), (1, .inl a1), (2, .inl a2), (3, .inl a3), (5, .inl x2746)] _ _
            refine tw_iinc (pc := 65) dX7_go_65 (.tail _ (.tail _ (.tail _ (.tail _ (.tail _ (.head _)))))) (by decide) (by decide) (by omega) (fun x3413 ex3413 => ?_)
            show TT _ _ _ _ _ _ _ [(5, .inl x3413), (4, .inl x2745), (0, .inr (some a0)), (1, .inl a1), (2, .inl a2), (3, .inl a3)] _ _
            refine tt_goto (tgt := 27) (pc := 68) dX7_go_68 (by decide) ?_
            refine tt_loc [(0, .inr (some a0)), (1, .inl a1), (2, .inl a2), (3, .inl a3), (4, .inl x2745), (5, .inl x3413)] (List.forall_mem_cons.mpr ⟨(.tail _ (.tail _ (.head _))), List.forall_mem_cons.mpr ⟨(.tail _ (.tail _ (.tail _ (.head _)))), List.forall_mem_cons.mpr ⟨(.tail _ (.tail _ (.tail _ (.tail _ (.head _))))), List.forall_mem_cons.mpr ⟨(.tail _ (.tail _ (.tail _ (.tail _ (.tail _ (.head _)))))), List.forall_mem_cons.mpr ⟨(.tail _ (.head _)), List.forall_mem_cons.mpr ⟨(.head _), fun _ z => absurd z List.not_mem_nil⟩⟩⟩⟩⟩⟩) ?_
            exact ih27 hb hwb hfb x2745 (by omega) (by omega) x3413 (by omega) (by omega) (by omega) hIb (by omega)
          · skip
            refine tt_iload (pc := 56) dX7_go_56 (.tail _ (.tail _ (.tail _ (.tail _ (.tail _ (.head _)))))) ?_
            refine tt_goto (tgt := 63) (pc := 58) dX7_go_58 (by decide) ?_
            refine tt_istore (pc := 63) dX7_go_63 (by decide) ?_
            show TT _ _ _ _ _ _ _ [(4, .inl x2746), (0, .inr (some a0)), (1, .inl a1), (2, .inl a2), (3, .inl a3), (5, .inl x2746)] _ _
            refine tw_iinc (pc := 65) dX7_go_65 (.tail _ (.tail _ (.tail _ (.tail _ (.tail _ (.head _)))))) (by decide) (by decide) (by omega) (fun x3414 ex3414 => ?_)
            show TT _ _ _ _ _ _ _ [(5, .inl x3414), (4, .inl x2746), (0, .inr (some a0)), (1, .inl a1), (2, .inl a2), (3, .inl a3)] _ _
            refine tt_goto (tgt := 27) (pc := 68) dX7_go_68 (by decide) ?_
            refine tt_loc [(0, .inr (some a0)), (1, .inl a1), (2, .inl a2), (3, .inl a3), (4, .inl x2746), (5, .inl x3414)] (List.forall_mem_cons.mpr ⟨(.tail _ (.tail _ (.head _))), List.forall_mem_cons.mpr ⟨(.tail _ (.tail _ (.tail _ (.head _)))), List.forall_mem_cons.mpr ⟨(.tail _ (.tail _ (.tail _ (.tail _ (.head _))))), List.forall_mem_cons.mpr ⟨(.tail _ (.tail _ (.tail _ (.tail _ (.tail _ (.head _)))))), List.forall_mem_cons.mpr ⟨(.tail _ (.head _)), List.forall_mem_cons.mpr ⟨(.head _), fun _ z => absurd z List.not_mem_nil⟩⟩⟩⟩⟩⟩) ?_
            exact ih27 hb hwb hfb x2746 (by omega) (by omega) x3414 (by omega) (by omega) (by omega) hIb (by omega)
  refine tt_aload_n (pc := 0) dX7_go_0 (.head _) ?_
  refine tw_getr (pc := 1) dX7_go_1 flX7_80 hw ta0 (by decide) rfl (fun f3415 q3416 ef3415 gf3415 tq3416 => ?_)
  refine tt_iload_n (pc := 4) dX7_go_4 (.tail _ (.head _)) ?_
  refine tt_iload_n (pc := 5) dX7_go_5 (.tail _ (.tail _ (.head _))) ?_
  refine tw_ist (P := (PEX 57)) (pc := 6) dX7_go_6 hw tq3416 rfl (by omega) (by omega) (by omega) (by omega) (by decide) (fun f3417 h3418 eh3418 gh3418 kh3418 wh3418 fh3418 => ?_)
  have hfh3418 := hf.tr (fh3418.weak (weak_PEX (fun _ => rfl)))
  have Jh3418 := i1_fr fh3418 (by decide) (by decide) (by decide) (by decide) hI
  obtain ⟨f3419, E3420, G3421⟩ := fr_fld fh3418 ta0 (by decide) ef3415 gf3415
  refine tt_iload_n (pc := 7) dX7_go_7 (.tail _ (.tail _ (.tail _ (.head _)))) ?_
  refine tw_iconst (pc := 8) dX7_go_8 (by decide) (fun x3422 ex3422 => ?_)
  refine tw_icmp (tgt := 21) (pc := 9) dX7_go_9 (by decide) (fun (c3423 : a3.toInt ≠ x3422.toInt) => ?_) (fun (c3423 : ¬ (a3.toInt ≠ x3422.toInt)) => ?_)
  · skip
    refine tw_iconst (pc := 21) dX7_go_21 (by decide) (fun x3424 ex3424 => ?_)
    refine tt_istore (pc := 22) dX7_go_22 (by decide) ?_
    show TT _ _ _ _ _ _ _ [(4, .inl x3424), (0, .inr (some a0)), (1, .inl a1), (2, .inl a2), (3, .inl a3)] _ _
    refine tw_iconst (pc := 24) dX7_go_24 (by decide) (fun x3425 ex3425 => ?_)
    refine tt_istore (pc := 25) dX7_go_25 (by decide) ?_
    show TT _ _ _ _ _ _ _ [(5, .inl x3425), (4, .inl x3424), (0, .inr (some a0)), (1, .inl a1), (2, .inl a2), (3, .inl a3)] _ _
    refine tt_loc [(0, .inr (some a0)), (1, .inl a1), (2, .inl a2), (3, .inl a3), (4, .inl x3424), (5, .inl x3425)] (List.forall_mem_cons.mpr ⟨(.tail _ (.tail _ (.head _))), List.forall_mem_cons.mpr ⟨(.tail _ (.tail _ (.tail _ (.head _)))), List.forall_mem_cons.mpr ⟨(.tail _ (.tail _ (.tail _ (.tail _ (.head _))))), List.forall_mem_cons.mpr ⟨(.tail _ (.tail _ (.tail _ (.tail _ (.tail _ (.head _)))))), List.forall_mem_cons.mpr ⟨(.tail _ (.head _)), List.forall_mem_cons.mpr ⟨(.head _), fun _ z => absurd z List.not_mem_nil⟩⟩⟩⟩⟩⟩) ?_
    exact B27 9 h3418 wh3418 hfh3418 x3424 (by omega) (by omega) x3425 (by omega) (by omega) (by omega) Jh3418 (by omega)
  · skip
    refine tt_aload_n (pc := 12) dX7_go_12 (.head _) ?_
    refine tw_getr (pc := 13) dX7_go_13 flX7_74 wh3418 ta0 (by decide) rfl (fun f3426 q3427 ef3426 gf3426 tq3427 => ?_)
    refine tt_iload_n (pc := 16) dX7_go_16 (.tail _ (.head _)) ?_
    refine tw_ild (pc := 17) dX7_go_17 wh3418 tq3427 rfl (by omega) (by omega) (fun f3429 x3428 ef3429 gf3429 lx3428 ux3428 => ?_)
    refine tt_goto (tgt := 22) (pc := 18) dX7_go_18 (by decide) ?_
    refine tt_istore (pc := 22) dX7_go_22 (by decide) ?_
    show TT _ _ _ _ _ _ _ [(4, .inl x3428), (0, .inr (some a0)), (1, .inl a1), (2, .inl a2), (3, .inl a3)] _ _
    refine tw_iconst (pc := 24) dX7_go_24 (by decide) (fun x3430 ex3430 => ?_)
    refine tt_istore (pc := 25) dX7_go_25 (by decide) ?_
    show TT _ _ _ _ _ _ _ [(5, .inl x3430), (4, .inl x3428), (0, .inr (some a0)), (1, .inl a1), (2, .inl a2), (3, .inl a3)] _ _
    refine tt_loc [(0, .inr (some a0)), (1, .inl a1), (2, .inl a2), (3, .inl a3), (4, .inl x3428), (5, .inl x3430)] (List.forall_mem_cons.mpr ⟨(.tail _ (.tail _ (.head _))), List.forall_mem_cons.mpr ⟨(.tail _ (.tail _ (.tail _ (.head _)))), List.forall_mem_cons.mpr ⟨(.tail _ (.tail _ (.tail _ (.tail _ (.head _))))), List.forall_mem_cons.mpr ⟨(.tail _ (.tail _ (.tail _ (.tail _ (.tail _ (.head _)))))), List.forall_mem_cons.mpr ⟨(.tail _ (.head _)), List.forall_mem_cons.mpr ⟨(.head _), fun _ z => absurd z List.not_mem_nil⟩⟩⟩⟩⟩⟩) ?_
    exact B27 9 h3418 wh3418 hfh3418 x3428 (by omega) (by omega) x3430 (by omega) (by omega) (by omega) Jh3418 (by omega)
