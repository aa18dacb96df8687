set_option maxHeartbeats 4000000 in
theorem g_X7_isUpF {l : Launch} {D : va_G} {N : Nat} {pk : Int} {τ : List Nat} (hN2 : 2 ≤ N) (hN8 : N ≤ 8) (hp0 : 0 ≤ pk) (hp64 : pk ≤ 64) {h : List tC} (hw : WT N pk τ h) (a0 : Nat) (ta0 : τ[a0]? = some 7) (a1 : Int32) (a2 : Int32) (la2 : 0 ≤ a2.toInt) (ua2 : a2.toInt ≤ 11) : TMc l D yX7_isUp cX7_isUp 3 (some .boolean) 0 0 0 0 [.inr (some a0), .inl a1, .inl a2] h (fun rv h' => h = h' ∧ ∃ x : Int32, rv = some (.inl x) ∧ (0 ≤ x.toInt ∧ x.toInt ≤ 1) ∧ (x.toInt ≠ 0 → ∀ u lo hi : Int32, ARV τ h 33 a2.toInt.toNat u → ARV τ h 34 a2.toInt.toNat lo → ARV τ h 35 a2.toInt.toNat hi → u.toInt ≠ 0 ∧ (lo.toInt = a1.toInt ∨ hi.toInt = a1.toInt))) := by
  refine tmc_of false rfl (by decide) (Nat.le_of_ble_eq_true rfl) ?_
  suffices HQ : ∀ Q0, Q0 = tRt cX7_isUp (some .boolean) (fun rv h' => h = h' ∧ ∃ x : Int32, rv = some (.inl x) ∧ (0 ≤ x.toInt ∧ x.toInt ≤ 1) ∧ (x.toInt ≠ 0 → ∀ u lo hi : Int32, ARV τ h 33 a2.toInt.toNat u → ARV τ h 34 a2.toInt.toNat lo → ARV τ h 35 a2.toInt.toNat hi → u.toInt ≠ 0 ∧ (lo.toInt = a1.toInt ∨ hi.toInt = a1.toInt))) → TT l D mX7_isUp Q0 0 0 0 [(0, .inr (some a0)), (1, .inl a1), (2, .inl a2)] [] h from HQ _ rfl
  intro Q0 hQ
  have ba1 := i_ty a1
  refine tt_aload_n (pc := 0) dX7_isUp_0 (.head _) ?_
  refine tw_getr (pc := 1) dX7_isUp_1 flX7_13 hw ta0 (by decide) rfl (fun f20 q21 ef20 gf20 tq21 => ?_)
  refine tt_iload_n (pc := 4) dX7_isUp_4 (.tail _ (.tail _ (.head _))) ?_
  refine tw_zld (pc := 5) dX7_isUp_5 hw tq21 rfl (by omega) (by omega) (fun f23 x22 ef23 gf23 lx22 ux22 => ?_)
  refine tw_if (tgt := 33) (pc := 6) dX7_isUp_6 (by decide) (fun (c24 : x22.toInt = 0) => ?_) (fun (c24 : ¬ (x22.toInt = 0)) => ?_)
  · skip
    refine tw_iconst (pc := 33) dX7_isUp_33 (by decide) (fun x25 ex25 => ?_)
    refine tt_stop ?_
    rw [hQ]
    exact Or.inr (Or.inl ⟨x25, dX7_isUp_34, rfl, Or.inr ⟨rfl, bool01 (by omega) (by omega)⟩, rfl, x25, rfl, ⟨by omega, by omega⟩, fun z => absurd (by omega) z⟩)
  · skip
    refine tt_aload_n (pc := 9) dX7_isUp_9 (.head _) ?_
    refine tw_getr (pc := 10) dX7_isUp_10 flX7_16 hw ta0 (by decide) rfl (fun f26 q27 ef26 gf26 tq27 => ?_)
    refine tt_iload_n (pc := 13) dX7_isUp_13 (.tail _ (.tail _ (.head _))) ?_
    refine tw_ild (pc := 14) dX7_isUp_14 hw tq27 rfl (by omega) (by omega) (fun f29 x28 ef29 gf29 lx28 ux28 => ?_)
    refine tt_iload_n (pc := 15) dX7_isUp_15 (.tail _ (.head _)) ?_
    refine tw_icmp (tgt := 29) (pc := 16) dX7_isUp_16 (by decide) (fun (c30 : x28.toInt = a1.toInt) => ?_) (fun (c30 : ¬ (x28.toInt = a1.toInt)) => ?_)
    · skip
      refine tw_iconst (pc := 29) dX7_isUp_29 (by decide) (fun x31 ex31 => ?_)
      refine tt_goto (tgt := 34) (pc := 30) dX7_isUp_30 (by decide) ?_
      refine tt_stop ?_
      rw [hQ]
      have np : ∀ u lo hi : Int32, ARV τ h 33 a2.toInt.toNat u → ARV τ h 34 a2.toInt.toNat lo → ARV τ h 35 a2.toInt.toNat hi → u.toInt ≠ 0 ∧ (lo.toInt = a1.toInt ∨ hi.toInt = a1.toInt) := by
        intro u9 lo9 hi9 B1 B2 B3
        have z1 := arv_is hw.2.2.2 (by decide) B1 tq21 ef23 gf23 rfl
        subst z1
        have z2 := arv_is hw.2.2.2 (by decide) B2 tq27 ef29 gf29 rfl
        subst z2
        omega
      exact Or.inr (Or.inl ⟨x31, dX7_isUp_34, rfl, Or.inr ⟨rfl, bool01 (by omega) (by omega)⟩, rfl, x31, rfl, ⟨by omega, by omega⟩, fun _ => np⟩)
    · skip
      refine tt_aload_n (pc := 19) dX7_isUp_19 (.head _) ?_
      refine tw_getr (pc := 20) dX7_isUp_20 flX7_20 hw ta0 (by decide) rfl (fun f32 q33 ef32 gf32 tq33 => ?_)
      refine tt_iload_n (pc := 23) dX7_isUp_23 (.tail _ (.tail _ (.head _))) ?_
      refine tw_ild (pc := 24) dX7_isUp_24 hw tq33 rfl (by omega) (by omega) (fun f35 x34 ef35 gf35 lx34 ux34 => ?_)
      refine tt_iload_n (pc := 25) dX7_isUp_25 (.tail _ (.head _)) ?_
      refine tw_icmp (tgt := 33) (pc := 26) dX7_isUp_26 (by decide) (fun (c36 : x34.toInt ≠ a1.toInt) => ?_) (fun (c36 : ¬ (x34.toInt ≠ a1.toInt)) => ?_)
      · skip
        refine tw_iconst (pc := 33) dX7_isUp_33 (by decide) (fun x37 ex37 => ?_)
        refine tt_stop ?_
        rw [hQ]
        exact Or.inr (Or.inl ⟨x37, dX7_isUp_34, rfl, Or.inr ⟨rfl, bool01 (by omega) (by omega)⟩, rfl, x37, rfl, ⟨by omega, by omega⟩, fun z => absurd (by omega) z⟩)
      · skip
        refine tw_iconst (pc := 29) dX7_isUp_29 (by decide) (fun x38 ex38 => ?_)
        refine tt_goto (tgt := 34) (pc := 30) dX7_isUp_30 (by decide) ?_
        refine tt_stop ?_
        rw [hQ]
        have np : ∀ u lo hi : Int32, ARV τ h 33 a2.toInt.toNat u → ARV τ h 34 a2.toInt.toNat lo → ARV τ h 35 a2.toInt.toNat hi → u.toInt ≠ 0 ∧ (lo.toInt = a1.toInt ∨ hi.toInt = a1.toInt) := by
          intro u9 lo9 hi9 B1 B2 B3
          have z1 := arv_is hw.2.2.2 (by decide) B1 tq21 ef23 gf23 rfl
          subst z1
          have z2 := arv_is hw.2.2.2 (by decide) B2 tq27 ef29 gf29 rfl
          subst z2
          have z3 := arv_is hw.2.2.2 (by decide) B3 tq33 ef35 gf35 rfl
          subst z3
          omega
        exact Or.inr (Or.inl ⟨x38, dX7_isUp_34, rfl, Or.inr ⟨rfl, bool01 (by omega) (by omega)⟩, rfl, x38, rfl, ⟨by omega, by omega⟩, fun _ => np⟩)
set_option maxHeartbeats 4000000 in
theorem g_X7_tellE {l : Launch} {D : va_G} {N : Nat} {pk : Int} {τ : List Nat} (hN2 : 2 ≤ N) (hN8 : N ≤ 8) (hp0 : 0 ≤ pk) (hp64 : pk ≤ 64) {h : List tC} (hw : WT N pk τ h) (a0 : Nat) (ta0 : τ[a0]? = some 7) (a1 : Int32) (la1 : 0 ≤ a1.toInt) (ua1 : a1.toInt ≤ 7) : TMc l D yX7_tell cX7_tell 5 none 3 81 0 0 [.inr (some a0), .inl a1] h (fun rv h' => WT N pk τ h' ∧ Fr PM τ h h' ∧ rv = none ∧ I1r τ h' a1.toInt.toNat ∧ ∀ r9 : Nat, r9 ≠ a1.toInt.toNat → I1r τ h r9 → I1r τ h' r9) := by
  refine tmc_of false rfl (by decide) (Nat.le_of_ble_eq_true rfl) ?_
  suffices HQ : ∀ Q0, Q0 = tRt cX7_tell none (fun rv h' => WT N pk τ h' ∧ Fr PM τ h h' ∧ rv = none ∧ I1r τ h' a1.toInt.toNat ∧ ∀ r9 : Nat, r9 ≠ a1.toInt.toNat → I1r τ h r9 → I1r τ h' r9) → TT l D mX7_tell Q0 0 0 0 [(0, .inr (some a0)), (1, .inl a1)] [] h from HQ _ rfl
  intro Q0 hQ
  have hf : Fr PM τ h h := Fr.rf
  have B44 : ∀ (n44 : Nat) (hb : List tC) (hwb : WT N pk τ hb) (hfb : Fr PM τ h hb) (x320 : Int32) (x321 : Int32) (x322 : Int32) (lx322 : 0 ≤ x322.toInt) (ux322 : x322.toInt ≤ 8) (ub44 : UPB τ hb a1.toInt.toNat 12 x320) (hr44 : ∀ r9 : Nat, r9 ≠ a1.toInt.toNat → I1r τ h r9 → I1r τ hb r9), 8 - x322.toInt < n44 → TT l D mX7_tell Q0 0 0 44 [(0, .inr (some a0)), (1, .inl a1), (2, .inl x320), (3, .inl x321), (4, .inl x322)] [] hb := by
    intro n44
    induction n44 with
    | zero =>
      intro hb hwb hfb x320 x321 x322 lx322 ux322 ub44 hr44 hn44
      exfalso
      omega
    | succ n44 ih44 =>
      intro hb hwb hfb x320 x321 x322 lx322 ux322 ub44 hr44 hn44
      have bx320 := i_ty x320
      have bx321 := i_ty x321
      refine tt_iload (pc := 44) dX7_tell_44 (.tail _ (.tail _ (.tail _ (.tail _ (.head _))))) ?_
      refine tw_bipush (pc := 46) dX7_tell_46 (by decide) (fun x323 ex323 => ?_)
      refine tw_icmp (tgt := 79) (pc := 48) dX7_tell_48 (by decide) (fun (c324 : x323.toInt ≤ x322.toInt) => ?_) (fun (c324 : ¬ (x323.toInt ≤ x322.toInt)) => ?_)
      · skip
        refine tt_aload_n (pc := 79) dX7_tell_79 (.head _) ?_
        refine tw_getr (pc := 80) dX7_tell_80 flX7_29 hwb ta0 (by decide) rfl (fun f325 q326 ef325 gf325 tq326 => ?_)
        refine tw_bipush (pc := 83) dX7_tell_83 (by decide) (fun x327 ex327 => ?_)
        refine tt_iload_n (pc := 85) dX7_tell_85 (.tail _ (.head _)) ?_
        refine tw_imul (c := 9) (pc := 86) dX7_tell_86 (by omega) (by omega) (fun x328 ex328 => ?_)
        refine tt_dup2 (pc := 87) dX7_tell_87 ?_
        refine tw_ild (pc := 88) dX7_tell_88 hwb tq326 rfl (by omega) (by omega) (fun f330 x329 ef330 gf330 lx329 ux329 => ?_)
        refine tw_iconst (pc := 89) dX7_tell_89 (by decide) (fun x331 ex331 => ?_)
        refine tt_iadd (pc := 90) dX7_tell_90 ?_
        refine tw_any (fun x332 => ?_)
        have bx332 := i_ty x332
        refine tw_ist (P := (PEX 38)) (pc := 91) dX7_tell_91 hwb tq326 rfl (by omega) (by omega) (by omega) (by omega) (by decide) (fun f333 h334 eh334 gh334 kh334 wh334 fh334 => ?_)
        have hfh334 := hfb.tr (fh334.weak (weak_PEX (fun _ => rfl)))
        have UBh334 := upb_fr fh334 (by decide) (by decide) (by decide) ub44
        have RRh334 : ∀ r9 : Nat, r9 ≠ a1.toInt.toNat → I1r τ h r9 → I1r τ h334 r9 := fun r9 n9 z9 => i1r_fr fh334 (by decide) (by decide) (by decide) (by decide) (hr44 r9 n9 z9)
        obtain ⟨f335, E336, G337⟩ := fr_fld fh334 ta0 (by decide) ef325 gf325
        refine tt_aload_n (pc := 92) dX7_tell_92 (.head _) ?_
        refine tw_getr (pc := 93) dX7_tell_93 flX7_32 wh334 ta0 (by decide) rfl (fun f338 q339 ef338 gf338 tq339 => ?_)
        refine tw_bipush (pc := 96) dX7_tell_96 (by decide) (fun x340 ex340 => ?_)
        refine tt_iload_n (pc := 98) dX7_tell_98 (.tail _ (.head _)) ?_
        refine tw_imul (c := 9) (pc := 99) dX7_tell_99 (by omega) (by omega) (fun x341 ex341 => ?_)
        refine tt_iload_n (pc := 100) dX7_tell_100 (.tail _ (.tail _ (.head _))) ?_
        refine tw_ist (P := (PEX 39)) (pc := 101) dX7_tell_101 wh334 tq339 rfl (by omega) (by omega) (by omega) (by omega) (by decide) (fun f342 h343 eh343 gh343 kh343 wh343 fh343 => ?_)
        have hfh343 := hfh334.tr (fh343.weak (weak_PEX (fun _ => rfl)))
        have Oh343 := upb_own hw.2.2.2 fh343 tq339 gh343 (by show x341.toInt.toNat = _; omega) kh343 UBh334
        have RRh343 : ∀ r9 : Nat, r9 ≠ a1.toInt.toNat → I1r τ h r9 → I1r τ h343 r9 := fun r9 n9 z9 => i1r_set hw.2.2.2 fh343 tq339 eh343 gh343 (by show x341.toInt.toNat ≠ _; omega) (RRh334 r9 n9 z9)
        obtain ⟨f344, E345, G346⟩ := fr_fld fh343 ta0 (by decide) E336 G337
        have E347 := fr_arrI fh343 tq326 (by decide) gh334
        obtain ⟨f348, E349, G350⟩ := fr_fld fh343 ta0 (by decide) ef338 gf338
        refine tt_aload_n (pc := 102) dX7_tell_102 (.head _) ?_
        refine tw_getr (pc := 103) dX7_tell_103 flX7_35 wh343 ta0 (by decide) rfl (fun f351 q352 ef351 gf351 tq352 => ?_)
        refine tw_bipush (pc := 106) dX7_tell_106 (by decide) (fun x353 ex353 => ?_)
        refine tt_iload_n (pc := 108) dX7_tell_108 (.tail _ (.head _)) ?_
        refine tw_imul (c := 9) (pc := 109) dX7_tell_109 (by omega) (by omega) (fun x354 ex354 => ?_)
        refine tt_iload_n (pc := 110) dX7_tell_110 (.tail _ (.tail _ (.tail _ (.head _)))) ?_
        refine tw_ist (P := (PEX 40)) (pc := 111) dX7_tell_111 wh343 tq352 rfl (by omega) (by omega) (by omega) (by omega) (by decide) (fun f355 h356 eh356 gh356 kh356 wh356 fh356 => ?_)
        have hfh356 := hfh343.tr (fh356.weak (weak_PEX (fun _ => rfl)))
        have Oh356 := i1r_fr fh356 (by decide) (by decide) (by decide) (by decide) Oh343
        have RRh356 : ∀ r9 : Nat, r9 ≠ a1.toInt.toNat → I1r τ h r9 → I1r τ h356 r9 := fun r9 n9 z9 => i1r_fr fh356 (by decide) (by decide) (by decide) (by decide) (RRh343 r9 n9 z9)
        obtain ⟨f357, E358, G359⟩ := fr_fld fh356 ta0 (by decide) E345 G346
        have E360 := fr_arrI fh356 tq326 (by decide) E347
        obtain ⟨f361, E362, G363⟩ := fr_fld fh356 ta0 (by decide) E349 G350
        have E364 := fr_arrI fh356 tq339 (by decide) gh343
        obtain ⟨f365, E366, G367⟩ := fr_fld fh356 ta0 (by decide) ef351 gf351
        refine tt_aload_n (pc := 112) dX7_tell_112 (.head _) ?_
        refine tt_iload_n (pc := 113) dX7_tell_113 (.tail _ (.head _)) ?_
        refine tw_iconst (pc := 114) dX7_tell_114 (by decide) (fun x368 ex368 => ?_)
        refine tw_iconst (pc := 115) dX7_tell_115 (by decide) (fun x369 ex369 => ?_)
        refine tt_iload_n (pc := 116) dX7_tell_116 (.tail _ (.head _)) ?_
        refine tt_aload_n (pc := 117) dX7_tell_117 (.head _) ?_
        refine tt_get (pc := 118) dX7_tell_118 flX7_29 E358 G359 ?_
        refine tw_bipush (pc := 121) dX7_tell_121 (by decide) (fun x370 ex370 => ?_)
        refine tt_iload_n (pc := 123) dX7_tell_123 (.tail _ (.head _)) ?_
        refine tw_imul (c := 9) (pc := 124) dX7_tell_124 (by omega) (by omega) (fun x371 ex371 => ?_)
        refine tw_ild (pc := 125) dX7_tell_125 wh356 tq326 rfl (by omega) (by omega) (fun f373 x372 ef373 gf373 lx372 ux372 => ?_)
        refine tt_aload_n (pc := 126) dX7_tell_126 (.head _) ?_
        refine tt_iload_n (pc := 127) dX7_tell_127 (.tail _ (.head _)) ?_
        refine tt_iload_n (pc := 128) dX7_tell_128 (.tail _ (.head _)) ?_
        refine tw_callV (kc := 0) (ks := 0) (mc := 0) (ms := 0) (as := [.inl a1, .inl a1]) (st := [.inl x372, .inl a1, .inl x369, .inl x368, .inl a1, .inr (some a0)]) (pc := 129) wh356 ta0 (by decide) dX7_tell_129 lkX7_117 imX7_bodyOf seX7_bodyOf rfl rfl (by decide) (by decide) (Nat.le_of_ble_eq_true rfl) (g_X7_bodyOf hN2 hN8 hp0 hp64 wh356 a0 ta0 a1 (by omega) (by omega) a1 (by omega) (by omega)) (fun rv h374 qh374 => ?_)
        obtain ⟨rfl, x375, rfl, lx375, ux375⟩ := qh374
        show TT _ _ _ _ _ _ _ _ [.inl x375, .inl x372, .inl a1, .inl x369, .inl x368, .inl a1, .inr (some a0)] _
        refine tw_callV (kc := 0) (ks := 0) (mc := 0) (ms := 0) (as := [.inl a1, .inl x368, .inl x369, .inl a1, .inl x372, .inl x375]) (st := []) (pc := 132) wh356 ta0 (by decide) dX7_tell_132 lkX7_121 imX7_sendAll seX7_sendAll rfl rfl (by decide) (by decide) (Nat.le_of_ble_eq_true rfl) (g_X7_sendAllA hN2 hN8 hp0 hp64 wh356 a0 ta0 a1 (by omega) (by omega) x368 x369 (by omega) (by omega) a1 (by omega) (by omega) x372 x375) (fun rv h376 qh376 => ?_)
        obtain ⟨wh376, fh376, rfl⟩ := qh376
        have hfh376 := hfh356.tr (fh376.weak weak_PMk_PM)
        have Oh376 := i1r_fr fh376 (by decide) (by decide) (by decide) (by decide) Oh356
        have RRh376 : ∀ r9 : Nat, r9 ≠ a1.toInt.toNat → I1r τ h r9 → I1r τ h376 r9 := fun r9 n9 z9 => i1r_fr fh376 (by decide) (by decide) (by decide) (by decide) (RRh356 r9 n9 z9)
        show TT _ _ _ _ _ _ _ _ [] _
        refine tt_stop ?_
        rw [hQ]
        exact Or.inl ⟨dX7_tell_135, rfl, rfl, wh376, hfh376, rfl, Oh376, RRh376⟩
      · skip
        refine tt_iload_n (pc := 51) dX7_tell_51 (.tail _ (.tail _ (.tail _ (.head _)))) ?_
        refine tt_aload_n (pc := 52) dX7_tell_52 (.head _) ?_
        refine tw_getr (pc := 53) dX7_tell_53 flX7_26 hwb ta0 (by decide) rfl (fun f377 q378 ef377 gf377 tq378 => ?_)
        refine tt_iload (pc := 56) dX7_tell_56 (.tail _ (.tail _ (.tail _ (.tail _ (.head _))))) ?_
        refine tw_ild (pc := 58) dX7_tell_58 hwb tq378 rfl (by omega) (by omega) (fun f380 x379 ef380 gf380 lx379 ux379 => ?_)
        refine tt_iload_n (pc := 59) dX7_tell_59 (.tail _ (.head _)) ?_
        refine tw_icmp (tgt := 70) (pc := 60) dX7_tell_60 (by decide) (fun (c381 : x379.toInt ≠ a1.toInt) => ?_) (fun (c381 : ¬ (x379.toInt ≠ a1.toInt)) => ?_)
        · skip
          refine tw_iconst (pc := 70) dX7_tell_70 (by decide) (fun x382 ex382 => ?_)
          refine tt_ior (pc := 71) dX7_tell_71 ?_
          refine tw_def (fun x383 qx383 => ?_)
          have bx383 := i_ty x383
          refine tt_istore_n (pc := 72) dX7_tell_72 (by decide) ?_
          show TT _ _ _ _ _ _ _ [(3, .inl x383), (0, .inr (some a0)), (1, .inl a1), (2, .inl x320), (4, .inl x322)] _ _
          refine tw_iinc (pc := 73) dX7_tell_73 (.tail _ (.tail _ (.tail _ (.tail _ (.head _))))) (by decide) (by decide) (by omega) (fun x384 ex384 => ?_)
          show TT _ _ _ _ _ _ _ [(4, .inl x384), (3, .inl x383), (0, .inr (some a0)), (1, .inl a1), (2, .inl x320)] _ _
          refine tt_goto (tgt := 44) (pc := 76) dX7_tell_76 (by decide) ?_
          refine tt_loc [(0, .inr (some a0)), (1, .inl a1), (2, .inl x320), (3, .inl x383), (4, .inl x384)] (List.forall_mem_cons.mpr ⟨(.tail _ (.tail _ (.head _))), List.forall_mem_cons.mpr ⟨(.tail _ (.tail _ (.tail _ (.head _)))), List.forall_mem_cons.mpr ⟨(.tail _ (.tail _ (.tail _ (.tail _ (.head _))))), List.forall_mem_cons.mpr ⟨(.tail _ (.head _)), List.forall_mem_cons.mpr ⟨(.head _), fun _ z => absurd z List.not_mem_nil⟩⟩⟩⟩⟩) ?_
          exact ih44 hb hwb hfb x320 x383 x384 (by omega) (by omega) ub44 hr44 (by omega)
        · skip
          refine tw_iconst (pc := 63) dX7_tell_63 (by decide) (fun x385 ex385 => ?_)
          refine tt_iload (pc := 64) dX7_tell_64 (.tail _ (.tail _ (.tail _ (.tail _ (.head _))))) ?_
          refine tt_ishl (pc := 66) dX7_tell_66 ?_
          refine tw_def (fun x386 qx386 => ?_)
          have bx386 := i_ty x386
          refine tt_goto (tgt := 71) (pc := 67) dX7_tell_67 (by decide) ?_
          refine tt_ior (pc := 71) dX7_tell_71 ?_
          refine tw_def (fun x387 qx387 => ?_)
          have bx387 := i_ty x387
          refine tt_istore_n (pc := 72) dX7_tell_72 (by decide) ?_
          show TT _ _ _ _ _ _ _ [(3, .inl x387), (0, .inr (some a0)), (1, .inl a1), (2, .inl x320), (4, .inl x322)] _ _
          refine tw_iinc (pc := 73) dX7_tell_73 (.tail _ (.tail _ (.tail _ (.tail _ (.head _))))) (by decide) (by decide) (by omega) (fun x388 ex388 => ?_)
          show TT _ _ _ _ _ _ _ [(4, .inl x388), (3, .inl x387), (0, .inr (some a0)), (1, .inl a1), (2, .inl x320)] _ _
          refine tt_goto (tgt := 44) (pc := 76) dX7_tell_76 (by decide) ?_
          refine tt_loc [(0, .inr (some a0)), (1, .inl a1), (2, .inl x320), (3, .inl x387), (4, .inl x388)] (List.forall_mem_cons.mpr ⟨(.tail _ (.tail _ (.head _))), List.forall_mem_cons.mpr ⟨(.tail _ (.tail _ (.tail _ (.head _)))), List.forall_mem_cons.mpr ⟨(.tail _ (.tail _ (.tail _ (.tail _ (.head _))))), List.forall_mem_cons.mpr ⟨(.tail _ (.head _)), List.forall_mem_cons.mpr ⟨(.head _), fun _ z => absurd z List.not_mem_nil⟩⟩⟩⟩⟩) ?_
          exact ih44 hb hwb hfb x320 x387 x388 (by omega) (by omega) ub44 hr44 (by omega)
  have B7 : ∀ (n7 : Nat) (hb : List tC) (hwb : WT N pk τ hb) (hfb : Fr PM τ h hb) (x389 : Int32) (x390 : Int32) (lx390 : 0 ≤ x390.toInt) (ux390 : x390.toInt ≤ 0) (x391 : Int32) (lx391 : 0 ≤ x391.toInt) (ux391 : x391.toInt ≤ 12) (ub7 : UPB τ hb a1.toInt.toNat x391.toInt x389) (hr7 : ∀ r9 : Nat, r9 ≠ a1.toInt.toNat → I1r τ h r9 → I1r τ hb r9), 12 - x391.toInt < n7 → TT l D mX7_tell Q0 0 0 7 [(0, .inr (some a0)), (1, .inl a1), (2, .inl x389), (3, .inl x390), (4, .inl x391)] [] hb := by
    intro n7
    induction n7 with
    | zero =>
      intro hb hwb hfb x389 x390 lx390 ux390 x391 lx391 ux391 ub7 hr7 hn7
      exfalso
      omega
    | succ n7 ih7 =>
      intro hb hwb hfb x389 x390 lx390 ux390 x391 lx391 ux391 ub7 hr7 hn7
      have bx389 := i_ty x389
      refine tt_iload (pc := 7) dX7_tell_7 (.tail _ (.tail _ (.tail _ (.tail _ (.head _))))) ?_
      refine tw_bipush (pc := 9) dX7_tell_9 (by decide) (fun x392 ex392 => ?_)
      refine tw_icmp (tgt := 41) (pc := 11) dX7_tell_11 (by decide) (fun (c393 : x392.toInt ≤ x391.toInt) => ?_) (fun (c393 : ¬ (x392.toInt ≤ x391.toInt)) => ?_)
      · skip
        refine tw_iconst (pc := 41) dX7_tell_41 (by decide) (fun x394 ex394 => ?_)
        refine tt_istore (pc := 42) dX7_tell_42 (by decide) ?_
        show TT _ _ _ _ _ _ _ [(4, .inl x394), (0, .inr (some a0)), (1, .inl a1), (2, .inl x389), (3, .inl x390)] _ _
        refine tt_loc [(0, .inr (some a0)), (1, .inl a1), (2, .inl x389), (3, .inl x390), (4, .inl x394)] (List.forall_mem_cons.mpr ⟨(.tail _ (.head _)), List.forall_mem_cons.mpr ⟨(.tail _ (.tail _ (.head _))), List.forall_mem_cons.mpr ⟨(.tail _ (.tail _ (.tail _ (.head _)))), List.forall_mem_cons.mpr ⟨(.tail _ (.tail _ (.tail _ (.tail _ (.head _))))), List.forall_mem_cons.mpr ⟨(.head _), fun _ z => absurd z List.not_mem_nil⟩⟩⟩⟩⟩) ?_
        exact B44 9 hb hwb hfb x389 x390 x394 (by omega) (by omega) (fun l9 li9 u9 lo9 hi9 hl9 hli9 b9 => ⟨by omega, (ub7 l9 li9 u9 lo9 hi9 hl9 hli9 b9).2⟩) hr7 (by omega)
      · skip
        refine tt_iload_n (pc := 14) dX7_tell_14 (.tail _ (.tail _ (.head _))) ?_
        refine tt_aload_n (pc := 15) dX7_tell_15 (.head _) ?_
        refine tt_iload_n (pc := 16) dX7_tell_16 (.tail _ (.head _)) ?_
        refine tt_iload (pc := 17) dX7_tell_17 (.tail _ (.tail _ (.tail _ (.tail _ (.head _))))) ?_
        refine tw_callV (kc := 0) (ks := 0) (mc := 0) (ms := 0) (as := [.inl a1, .inl x391]) (st := [.inl x389]) (pc := 19) hwb ta0 (by decide) dX7_tell_19 lkX7_110 imX7_isUp seX7_isUp rfl rfl (by decide) (by decide) (Nat.le_of_ble_eq_true rfl) (g_X7_isUpF hN2 hN8 hp0 hp64 hwb a0 ta0 a1 x391 (by omega) (by omega)) (fun rv h395 qh395 => ?_)
        obtain ⟨rfl, x397, rfl, ⟨lx397, ux397⟩, Ux397⟩ := qh395
        show TT _ _ _ _ _ _ _ _ [.inl x397, .inl x389] _
        refine tw_if (tgt := 32) (pc := 22) dX7_tell_22 (by decide) (fun (c398 : x397.toInt = 0) => ?_) (fun (c398 : ¬ (x397.toInt = 0)) => ?_)
        · skip
          refine tw_iconst (pc := 32) dX7_tell_32 (by decide) (fun x399 ex399 => ?_)
          refine tt_ior (pc := 33) dX7_tell_33 ?_
          refine tw_def (fun x400 qx400 => ?_)
          have bx400 := i_ty x400
          refine tt_istore_n (pc := 34) dX7_tell_34 (by decide) ?_
          show TT _ _ _ _ _ _ _ [(2, .inl x400), (0, .inr (some a0)), (1, .inl a1), (3, .inl x390), (4, .inl x391)] _ _
          refine tw_iinc (pc := 35) dX7_tell_35 (.tail _ (.tail _ (.tail _ (.tail _ (.head _))))) (by decide) (by decide) (by omega) (fun x401 ex401 => ?_)
          show TT _ _ _ _ _ _ _ [(4, .inl x401), (2, .inl x400), (0, .inr (some a0)), (1, .inl a1), (3, .inl x390)] _ _
          refine tt_goto (tgt := 7) (pc := 38) dX7_tell_38 (by decide) ?_
          refine tt_loc [(0, .inr (some a0)), (1, .inl a1), (2, .inl x400), (3, .inl x390), (4, .inl x401)] (List.forall_mem_cons.mpr ⟨(.tail _ (.tail _ (.head _))), List.forall_mem_cons.mpr ⟨(.tail _ (.tail _ (.tail _ (.head _)))), List.forall_mem_cons.mpr ⟨(.tail _ (.head _)), List.forall_mem_cons.mpr ⟨(.tail _ (.tail _ (.tail _ (.tail _ (.head _))))), List.forall_mem_cons.mpr ⟨(.head _), fun _ z => absurd z List.not_mem_nil⟩⟩⟩⟩⟩) ?_
          exact ih7 hb hwb hfb x400 x390 (by omega) (by omega) x401 (by omega) (by omega) (fun l9 li9 u9 lo9 hi9 hl9 hli9 b9 => by
  rw [qx400] at b9
  rcases bit_or (l := l9) (by omega) hli9 b9 with b9 | b9
  · have h9 := ub7 l9 li9 u9 lo9 hi9 hl9 hli9 b9
    exact ⟨by omega, h9.2⟩
  · have o9 : x399 = 0 := Int32.toInt_inj.mp (by rw [ex399]; rfl)
    rw [o9] at b9
    exact absurd b9 (bit_0 (by omega) hli9)) hr7 (by omega)
        · skip
          refine tw_iconst (pc := 25) dX7_tell_25 (by decide) (fun x402 ex402 => ?_)
          refine tt_iload (pc := 26) dX7_tell_26 (.tail _ (.tail _ (.tail _ (.tail _ (.head _))))) ?_
          refine tt_ishl (pc := 28) dX7_tell_28 ?_
          refine tw_def (fun x403 qx403 => ?_)
          have bx403 := i_ty x403
          refine tt_goto (tgt := 33) (pc := 29) dX7_tell_29 (by decide) ?_
          refine tt_ior (pc := 33) dX7_tell_33 ?_
          refine tw_def (fun x404 qx404 => ?_)
          have bx404 := i_ty x404
          refine tt_istore_n (pc := 34) dX7_tell_34 (by decide) ?_
          show TT _ _ _ _ _ _ _ [(2, .inl x404), (0, .inr (some a0)), (1, .inl a1), (3, .inl x390), (4, .inl x391)] _ _
          refine tw_iinc (pc := 35) dX7_tell_35 (.tail _ (.tail _ (.tail _ (.tail _ (.head _))))) (by decide) (by decide) (by omega) (fun x405 ex405 => ?_)
          show TT _ _ _ _ _ _ _ [(4, .inl x405), (2, .inl x404), (0, .inr (some a0)), (1, .inl a1), (3, .inl x390)] _ _
          refine tt_goto (tgt := 7) (pc := 38) dX7_tell_38 (by decide) ?_
          refine tt_loc [(0, .inr (some a0)), (1, .inl a1), (2, .inl x404), (3, .inl x390), (4, .inl x405)] (List.forall_mem_cons.mpr ⟨(.tail _ (.tail _ (.head _))), List.forall_mem_cons.mpr ⟨(.tail _ (.tail _ (.tail _ (.head _)))), List.forall_mem_cons.mpr ⟨(.tail _ (.head _)), List.forall_mem_cons.mpr ⟨(.tail _ (.tail _ (.tail _ (.tail _ (.head _))))), List.forall_mem_cons.mpr ⟨(.head _), fun _ z => absurd z List.not_mem_nil⟩⟩⟩⟩⟩) ?_
          exact ih7 hb hwb hfb x404 x390 (by omega) (by omega) x405 (by omega) (by omega) (fun l9 li9 u9 lo9 hi9 hl9 hli9 b9 => by
  rw [qx404] at b9
  rcases bit_or (l := l9) (by omega) hli9 b9 with b9 | b9
  · have h9 := ub7 l9 li9 u9 lo9 hi9 hl9 hli9 b9
    exact ⟨by omega, h9.2⟩
  · have o9 : x402 = 1 := Int32.toInt_inj.mp (by rw [ex402]; rfl)
    rw [qx403, o9] at b9
    have e9 := bit_1 (by omega) hli9 (m := x391.toInt.toNat) (by omega) (by omega) b9
    refine ⟨by omega, fun A1 A2 A3 => ?_⟩
    subst e9
    have := Ux397 (by omega) u9 lo9 hi9 A1 A2 A3
    omega) hr7 (by omega)
  refine tw_iconst (pc := 0) dX7_tell_0 (by decide) (fun x406 ex406 => ?_)
  refine tt_istore_n (pc := 1) dX7_tell_1 (by decide) ?_
  show TT _ _ _ _ _ _ _ [(2, .inl x406), (0, .inr (some a0)), (1, .inl a1)] _ _
  refine tw_iconst (pc := 2) dX7_tell_2 (by decide) (fun x407 ex407 => ?_)
  refine tt_istore_n (pc := 3) dX7_tell_3 (by decide) ?_
  show TT _ _ _ _ _ _ _ [(3, .inl x407), (2, .inl x406), (0, .inr (some a0)), (1, .inl a1)] _ _
  refine tw_iconst (pc := 4) dX7_tell_4 (by decide) (fun x408 ex408 => ?_)
  refine tt_istore (pc := 5) dX7_tell_5 (by decide) ?_
  show TT _ _ _ _ _ _ _ [(4, .inl x408), (3, .inl x407), (2, .inl x406), (0, .inr (some a0)), (1, .inl a1)] _ _
  refine tt_loc [(0, .inr (some a0)), (1, .inl a1), (2, .inl x406), (3, .inl x407), (4, .inl x408)] (List.forall_mem_cons.mpr ⟨(.tail _ (.tail _ (.tail _ (.head _)))), List.forall_mem_cons.mpr ⟨(.tail _ (.tail _ (.tail _ (.tail _ (.head _))))), List.forall_mem_cons.mpr ⟨(.tail _ (.tail _ (.head _))), List.forall_mem_cons.mpr ⟨(.tail _ (.head _)), List.forall_mem_cons.mpr ⟨(.head _), fun _ z => absurd z List.not_mem_nil⟩⟩⟩⟩⟩) ?_
  exact B7 13 h hw hf x406 x407 (by omega) (by omega) x408 (by omega) (by omega) (upb_0 (by omega)) (fun _ _ z => z) (by omega)
