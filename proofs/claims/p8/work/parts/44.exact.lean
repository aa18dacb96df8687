set_option maxHeartbeats 4000000 in
theorem g_X7_otherE {l : Launch} {D : va_G} {N : Nat} {pk : Int} {τ : List Nat} (hN2 : 2 ≤ N) (hN8 : N ≤ 8) (hp0 : 0 ≤ pk) (hp64 : pk ≤ 64) {h : List tC} (hw : WT N pk τ h) (a0 : Nat) (ta0 : τ[a0]? = some 7) (a1 : Int32) (a2 : Int32) (la2 : 0 ≤ a2.toInt) (ua2 : a2.toInt ≤ 11) : TMc l D yX7_other cX7_other 3 (some .int) 0 0 0 0 [.inr (some a0), .inl a1, .inl a2] h (fun rv h' => h = h' ∧ ∃ x : Int32, rv = some (.inl x) ∧ (0 ≤ x.toInt ∧ x.toInt ≤ (N : Int) - 1) ∧ ((∃ lo hi : Int32, ARV τ h 34 a2.toInt.toNat lo ∧ ARV τ h 35 a2.toInt.toNat hi ∧ lo.toInt = a1.toInt ∧ x = hi) ∨ (ARV τ h 34 a2.toInt.toNat x ∧ x.toInt ≠ a1.toInt))) := by
  refine tmc_of false rfl (by decide) (Nat.le_of_ble_eq_true rfl) ?_
  suffices HQ : ∀ Q0, Q0 = tRt cX7_other (some .int) (fun rv h' => h = h' ∧ ∃ x : Int32, rv = some (.inl x) ∧ (0 ≤ x.toInt ∧ x.toInt ≤ (N : Int) - 1) ∧ ((∃ lo hi : Int32, ARV τ h 34 a2.toInt.toNat lo ∧ ARV τ h 35 a2.toInt.toNat hi ∧ lo.toInt = a1.toInt ∧ x = hi) ∨ (ARV τ h 34 a2.toInt.toNat x ∧ x.toInt ≠ a1.toInt))) → TT l D mX7_other Q0 0 0 0 [(0, .inr (some a0)), (1, .inl a1), (2, .inl a2)] [] h from HQ _ rfl
  intro Q0 hQ
  have ba1 := i_ty a1
  refine tt_aload_n (pc := 0) dX7_other_0 (.head _) ?_
  refine tw_getr (pc := 1) dX7_other_1 flX7_16 hw ta0 (by decide) rfl (fun f10 q11 ef10 gf10 tq11 => ?_)
  refine tt_iload_n (pc := 4) dX7_other_4 (.tail _ (.tail _ (.head _))) ?_
  refine tw_ild (pc := 5) dX7_other_5 hw tq11 rfl (by omega) (by omega) (fun f13 x12 ef13 gf13 lx12 ux12 => ?_)
  refine tt_iload_n (pc := 6) dX7_other_6 (.tail _ (.head _)) ?_
  refine tw_icmp (tgt := 19) (pc := 7) dX7_other_7 (by decide) (fun (c14 : x12.toInt ≠ a1.toInt) => ?_) (fun (c14 : ¬ (x12.toInt ≠ a1.toInt)) => ?_)
  · skip
    refine tt_aload_n (pc := 19) dX7_other_19 (.head _) ?_
    refine tt_get (pc := 20) dX7_other_20 flX7_16 ef10 gf10 ?_
    refine tt_iload_n (pc := 23) dX7_other_23 (.tail _ (.tail _ (.head _))) ?_
    refine tt_iald (pc := 24) dX7_other_24 ef13 (i_nn (by omega)) gf13 ?_
    refine tt_stop ?_
    rw [hQ]
    exact Or.inr (Or.inl ⟨x12, dX7_other_25, rfl, Or.inl rfl, rfl, x12, rfl, ⟨by omega, by omega⟩, Or.inr ⟨⟨q11, _, _, tq11, ef13, gf13⟩, by omega⟩⟩)
  · skip
    refine tt_aload_n (pc := 10) dX7_other_10 (.head _) ?_
    refine tw_getr (pc := 11) dX7_other_11 flX7_20 hw ta0 (by decide) rfl (fun f15 q16 ef15 gf15 tq16 => ?_)
    refine tt_iload_n (pc := 14) dX7_other_14 (.tail _ (.tail _ (.head _))) ?_
    refine tw_ild (pc := 15) dX7_other_15 hw tq16 rfl (by omega) (by omega) (fun f18 x17 ef18 gf18 lx17 ux17 => ?_)
    refine tt_goto (tgt := 25) (pc := 16) dX7_other_16 (by decide) ?_
    refine tt_stop ?_
    rw [hQ]
    exact Or.inr (Or.inl ⟨x17, dX7_other_25, rfl, Or.inl rfl, rfl, x17, rfl, ⟨by omega, by omega⟩, Or.inl ⟨x12, x17, ⟨q11, _, _, tq11, ef13, gf13⟩, ⟨q16, _, _, tq16, ef18, gf18⟩, by omega, rfl⟩⟩)
set_option maxHeartbeats 4000000 in
theorem g_X7_isUpE {l : Launch} {D : va_G} {N : Nat} {pk : Int} {τ : List Nat} (hN2 : 2 ≤ N) (hN8 : N ≤ 8) (hp0 : 0 ≤ pk) (hp64 : pk ≤ 64) {h : List tC} (hw : WT N pk τ h) (a0 : Nat) (ta0 : τ[a0]? = some 7) (a1 : Int32) (a2 : Int32) (la2 : 0 ≤ a2.toInt) (ua2 : a2.toInt ≤ 11) : TMc l D yX7_isUp cX7_isUp 3 (some .boolean) 0 0 0 0 [.inr (some a0), .inl a1, .inl a2] h (fun rv h' => h = h' ∧ ∃ x : Int32, rv = some (.inl x) ∧ (0 ≤ x.toInt ∧ x.toInt ≤ 1) ∧ (x.toInt = 0 → ¬ ∃ u lo hi : Int32, ARV τ h 33 a2.toInt.toNat u ∧ u.toInt ≠ 0 ∧ ARV τ h 34 a2.toInt.toNat lo ∧ ARV τ h 35 a2.toInt.toNat hi ∧ (lo.toInt = a1.toInt ∨ hi.toInt = a1.toInt))) := by
  refine tmc_of false rfl (by decide) (Nat.le_of_ble_eq_true rfl) ?_
  suffices HQ : ∀ Q0, Q0 = tRt cX7_isUp (some .boolean) (fun rv h' => h = h' ∧ ∃ x : Int32, rv = some (.inl x) ∧ (0 ≤ x.toInt ∧ x.toInt ≤ 1) ∧ (x.toInt = 0 → ¬ ∃ u lo hi : Int32, ARV τ h 33 a2.toInt.toNat u ∧ u.toInt ≠ 0 ∧ ARV τ h 34 a2.toInt.toNat lo ∧ ARV τ h 35 a2.toInt.toNat hi ∧ (lo.toInt = a1.toInt ∨ hi.toInt = a1.toInt))) → TT l D mX7_isUp Q0 0 0 0 [(0, .inr (some a0)), (1, .inl a1), (2, .inl a2)] [] h from HQ _ rfl
  intro Q0 hQ
  have ba1 := i_ty a1
  refine tt_aload_n (pc := 0) dX7_isUp_0 (.head _) ?_
  refine tw_getr (pc := 1) dX7_isUp_1 flX7_13 hw ta0 (by decide) rfl (fun f20 q21 ef20 gf20 tq21 => ?_)
  refine tt_iload_n (pc := 4) dX7_isUp_4 (.tail _ (.tail _ (.head _))) ?_
  refine tw_zld (pc := 5) dX7_isUp_5 hw tq21 rfl (by omega) (by omega) (fun f23 x22 ef23 gf23 lx22 ux22 => ?_)
  refine tw_if (tgt := 33) (pc := 6) dX7_isUp_6 (by decide) (fun (c24 : x22.toInt = 0) => ?_) (fun (c24 : ¬ (x22.toInt = 0)) => ?_)
  · skip
    refine tw_iconst (pc := 33) dX7_isUp_33 (by decide) (fun x25 ex25 => ?_)
    refine tt_stop ?_
    rw [hQ]
    have np : ¬ (∃ u lo hi : Int32, ARV τ h 33 a2.toInt.toNat u ∧ u.toInt ≠ 0 ∧ ARV τ h 34 a2.toInt.toNat lo ∧ ARV τ h 35 a2.toInt.toNat hi ∧ (lo.toInt = a1.toInt ∨ hi.toInt = a1.toInt)) := by
      rintro ⟨u9, lo9, hi9, A1, n1, A2, A3, n2⟩
      have z1 := arv_is hw.2.2.2 (by decide) A1 tq21 ef23 gf23 rfl
      subst z1
      omega
    exact Or.inr (Or.inl ⟨x25, dX7_isUp_34, rfl, Or.inr ⟨rfl, bool01 (by omega) (by omega)⟩, rfl, x25, rfl, ⟨by omega, by omega⟩, fun _ => np⟩)
  · skip
    refine tt_aload_n (pc := 9) dX7_isUp_9 (.head _) ?_
    refine tw_getr (pc := 10) dX7_isUp_10 flX7_16 hw ta0 (by decide) rfl (fun f26 q27 ef26 gf26 tq27 => ?_)
    refine tt_iload_n (pc := 13) dX7_isUp_13 (.tail _ (.tail _ (.head _))) ?_
    refine tw_ild (pc := 14) dX7_isUp_14 hw tq27 rfl (by omega) (by omega) (fun f29 x28 ef29 gf29 lx28 ux28 => ?_)
    refine tt_iload_n (pc := 15) dX7_isUp_15 (.tail _ (.head _)) ?_
    refine tw_icmp (tgt := 29) (pc := 16) dX7_isUp_16 (by decide) (fun (c30 : x28.toInt = a1.toInt) => ?_) (fun (c30 : ¬ (x28.toInt = a1.toInt)) => ?_)
    · skip
      refine tw_iconst (pc := 29) dX7_isUp_29 (by decide) (fun x31 ex31 => ?_)
      refine tt_goto (tgt := 34) (pc := 30) dX7_isUp_30 (by decide) ?_
      refine tt_stop ?_
      rw [hQ]
      exact Or.inr (Or.inl ⟨x31, dX7_isUp_34, rfl, Or.inr ⟨rfl, bool01 (by omega) (by omega)⟩, rfl, x31, rfl, ⟨by omega, by omega⟩, fun z => absurd z (by omega)⟩)
    · skip
      refine tt_aload_n (pc := 19) dX7_isUp_19 (.head _) ?_
      refine tw_getr (pc := 20) dX7_isUp_20 flX7_20 hw ta0 (by decide) rfl (fun f32 q33 ef32 gf32 tq33 => ?_)
      refine tt_iload_n (pc := 23) dX7_isUp_23 (.tail _ (.tail _ (.head _))) ?_
      refine tw_ild (pc := 24) dX7_isUp_24 hw tq33 rfl (by omega) (by omega) (fun f35 x34 ef35 gf35 lx34 ux34 => ?_)
      refine tt_iload_n (pc := 25) dX7_isUp_25 (.tail _ (.head _)) ?_
      refine tw_icmp (tgt := 33) (pc := 26) dX7_isUp_26 (by decide) (fun (c36 : x34.toInt ≠ a1.toInt) => ?_) (fun (c36 : ¬ (x34.toInt ≠ a1.toInt)) => ?_)
      · skip
        refine tw_iconst (pc := 33) dX7_isUp_33 (by decide) (fun x37 ex37 => ?_)
        refine tt_stop ?_
        rw [hQ]
        have np : ¬ (∃ u lo hi : Int32, ARV τ h 33 a2.toInt.toNat u ∧ u.toInt ≠ 0 ∧ ARV τ h 34 a2.toInt.toNat lo ∧ ARV τ h 35 a2.toInt.toNat hi ∧ (lo.toInt = a1.toInt ∨ hi.toInt = a1.toInt)) := by
          rintro ⟨u9, lo9, hi9, A1, n1, A2, A3, n2⟩
          have z1 := arv_is hw.2.2.2 (by decide) A1 tq21 ef23 gf23 rfl
          subst z1
          have z2 := arv_is hw.2.2.2 (by decide) A2 tq27 ef29 gf29 rfl
          subst z2
          have z3 := arv_is hw.2.2.2 (by decide) A3 tq33 ef35 gf35 rfl
          subst z3
          omega
        exact Or.inr (Or.inl ⟨x37, dX7_isUp_34, rfl, Or.inr ⟨rfl, bool01 (by omega) (by omega)⟩, rfl, x37, rfl, ⟨by omega, by omega⟩, fun _ => np⟩)
      · skip
        refine tw_iconst (pc := 29) dX7_isUp_29 (by decide) (fun x38 ex38 => ?_)
        refine tt_goto (tgt := 34) (pc := 30) dX7_isUp_30 (by decide) ?_
        refine tt_stop ?_
        rw [hQ]
        exact Or.inr (Or.inl ⟨x38, dX7_isUp_34, rfl, Or.inr ⟨rfl, bool01 (by omega) (by omega)⟩, rfl, x38, rfl, ⟨by omega, by omega⟩, fun z => absurd z (by omega)⟩)
set_option maxHeartbeats 4000000 in
theorem g_X7_isStepE {l : Launch} {D : va_G} {N : Nat} {pk : Int} {τ : List Nat} (hN2 : 2 ≤ N) (hN8 : N ≤ 8) (hp0 : 0 ≤ pk) (hp64 : pk ≤ 64) {h : List tC} (hw : WT N pk τ h) (a0 : Nat) (ta0 : τ[a0]? = some 7) (a1 : Int32) (la1 : 0 ≤ a1.toInt) (ua1 : a1.toInt ≤ 7) (a2 : Int32) (la2 : 0 ≤ a2.toInt) (ua2 : a2.toInt ≤ 11) : TMc l D yX7_isStep cX7_isStep 3 (some .boolean) 0 0 0 0 [.inr (some a0), .inl a1, .inl a2] h (fun rv h' => h = h' ∧ ∃ x : Int32, rv = some (.inl x) ∧ (0 ≤ x.toInt ∧ x.toInt ≤ 1) ∧ (x.toInt ≠ 0 → ∃ lo hi : Int32, STEP τ h a1.toInt.toNat a2.toInt.toNat a2 lo hi) ∧ (x.toInt = 0 → ∀ lo hi : Int32, ¬ STEP τ h a1.toInt.toNat a2.toInt.toNat a2 lo hi)) := by
  refine tmc_of false rfl (by decide) (Nat.le_of_ble_eq_true rfl) ?_
  suffices HQ : ∀ Q0, Q0 = tRt cX7_isStep (some .boolean) (fun rv h' => h = h' ∧ ∃ x : Int32, rv = some (.inl x) ∧ (0 ≤ x.toInt ∧ x.toInt ≤ 1) ∧ (x.toInt ≠ 0 → ∃ lo hi : Int32, STEP τ h a1.toInt.toNat a2.toInt.toNat a2 lo hi) ∧ (x.toInt = 0 → ∀ lo hi : Int32, ¬ STEP τ h a1.toInt.toNat a2.toInt.toNat a2 lo hi)) → TT l D mX7_isStep Q0 0 0 0 [(0, .inr (some a0)), (1, .inl a1), (2, .inl a2)] [] h from HQ _ rfl
  intro Q0 hQ
  refine tt_aload_n (pc := 0) dX7_isStep_0 (.head _) ?_
  refine tw_getr (pc := 1) dX7_isStep_1 flX7_7 hw ta0 (by decide) rfl (fun f44 q45 ef44 gf44 tq45 => ?_)
  refine tt_iload_n (pc := 4) dX7_isStep_4 (.tail _ (.tail _ (.head _))) ?_
  refine tw_zld (pc := 5) dX7_isStep_5 hw tq45 rfl (by omega) (by omega) (fun f47 x46 ef47 gf47 lx46 ux46 => ?_)
  refine tw_if (tgt := 61) (pc := 6) dX7_isStep_6 (by decide) (fun (c48 : x46.toInt = 0) => ?_) (fun (c48 : ¬ (x46.toInt = 0)) => ?_)
  · skip
    refine tw_iconst (pc := 61) dX7_isStep_61 (by decide) (fun x49 ex49 => ?_)
    refine tt_stop ?_
    rw [hQ]
    have np : ∀ lo hi : Int32, ¬ STEP τ h a1.toInt.toNat a2.toInt.toNat a2 lo hi := by
      rintro lo9 hi9 ⟨ld9, k19, k29, s1, s2, s3, s4, s5, s6, s7, s8⟩
      have z1 := arv_is hw.2.2.2 (by decide) s1 tq45 ef47 gf47 rfl
      subst z1
      omega
    exact Or.inr (Or.inl ⟨x49, dX7_isStep_62, rfl, Or.inr ⟨rfl, bool01 (by omega) (by omega)⟩, rfl, x49, rfl, ⟨by omega, by omega⟩, fun z => absurd (by omega) z, fun _ => np⟩)
  · skip
    refine tt_aload_n (pc := 9) dX7_isStep_9 (.head _) ?_
    refine tw_getr (pc := 10) dX7_isStep_10 flX7_32 hw ta0 (by decide) rfl (fun f50 q51 ef50 gf50 tq51 => ?_)
    refine tw_bipush (pc := 13) dX7_isStep_13 (by decide) (fun x52 ex52 => ?_)
    refine tt_iload_n (pc := 15) dX7_isStep_15 (.tail _ (.head _)) ?_
    refine tw_imul (c := 8) (pc := 16) dX7_isStep_16 (by omega) (by omega) (fun x53 ex53 => ?_)
    refine tt_aload_n (pc := 17) dX7_isStep_17 (.head _) ?_
    refine tw_getr (pc := 18) dX7_isStep_18 flX7_16 hw ta0 (by decide) rfl (fun f54 q55 ef54 gf54 tq55 => ?_)
    refine tt_iload_n (pc := 21) dX7_isStep_21 (.tail _ (.tail _ (.head _))) ?_
    refine tw_ild (pc := 22) dX7_isStep_22 hw tq55 rfl (by omega) (by omega) (fun f57 x56 ef57 gf57 lx56 ux56 => ?_)
    refine tw_iadd (pc := 23) dX7_isStep_23 (by omega) (fun x58 ex58 => ?_)
    refine tw_ild (pc := 24) dX7_isStep_24 hw tq51 rfl (by omega) (by omega) (fun f60 x59 ef60 gf60 lx59 ux59 => ?_)
    refine tt_iload_n (pc := 25) dX7_isStep_25 (.tail _ (.tail _ (.head _))) ?_
    refine tt_ishr (pc := 26) dX7_isStep_26 ?_
    refine tw_def (fun x61 qx61 => ?_)
    have bx61 := i_ty x61
    refine tw_iconst (pc := 27) dX7_isStep_27 (by decide) (fun x62 ex62 => ?_)
    refine tt_iand (pc := 28) dX7_isStep_28 ?_
    refine tw_def (fun x63 qx63 => ?_)
    have bx63 := i_ty x63
    refine tw_iconst (pc := 29) dX7_isStep_29 (by decide) (fun x64 ex64 => ?_)
    refine tw_icmp (tgt := 61) (pc := 30) dX7_isStep_30 (by decide) (fun (c65 : x63.toInt ≠ x64.toInt) => ?_) (fun (c65 : ¬ (x63.toInt ≠ x64.toInt)) => ?_)
    · skip
      have bt66 : ¬ BIT x59 a2 := by
        have o9 : x62 = 1 := Int32.toInt_inj.mp (by rw [ex62]; rfl)
        have e9 : x63 = (x59 >>> (a2 &&& 31)) &&& 1 := by rw [qx63, qx61, o9]
        unfold BIT
        rw [← e9]
        omega
      refine tw_iconst (pc := 61) dX7_isStep_61 (by decide) (fun x68 ex68 => ?_)
      refine tt_stop ?_
      rw [hQ]
      have np : ∀ lo hi : Int32, ¬ STEP τ h a1.toInt.toNat a2.toInt.toNat a2 lo hi := by
        rintro lo9 hi9 ⟨ld9, k19, k29, s1, s2, s3, s4, s5, s6, s7, s8⟩
        have z1 := arv_is hw.2.2.2 (by decide) s1 tq45 ef47 gf47 rfl
        subst z1
        have z2 := arv_is hw.2.2.2 (by decide) s3 tq55 ef57 gf57 rfl
        subst z2
        have z3 := arv_is hw.2.2.2 (by decide) s5 tq51 ef60 gf60 (by show x58.toInt.toNat = _; omega)
        subst z3
        exact bt66 s7
      exact Or.inr (Or.inl ⟨x68, dX7_isStep_62, rfl, Or.inr ⟨rfl, bool01 (by omega) (by omega)⟩, rfl, x68, rfl, ⟨by omega, by omega⟩, fun z => absurd (by omega) z, fun _ => np⟩)
    · skip
      have bt67 : BIT x59 a2 := by
        have o9 : x62 = 1 := Int32.toInt_inj.mp (by rw [ex62]; rfl)
        have e9 : x63 = (x59 >>> (a2 &&& 31)) &&& 1 := by rw [qx63, qx61, o9]
        unfold BIT
        rw [← e9]
        omega
      refine tt_aload_n (pc := 33) dX7_isStep_33 (.head _) ?_
      refine tt_get (pc := 34) dX7_isStep_34 flX7_32 ef50 gf50 ?_
      refine tw_bipush (pc := 37) dX7_isStep_37 (by decide) (fun x69 ex69 => ?_)
      refine tt_iload_n (pc := 39) dX7_isStep_39 (.tail _ (.head _)) ?_
      refine tw_imul (c := 8) (pc := 40) dX7_isStep_40 (by omega) (by omega) (fun x70 ex70 => ?_)
      refine tt_aload_n (pc := 41) dX7_isStep_41 (.head _) ?_
      refine tw_getr (pc := 42) dX7_isStep_42 flX7_20 hw ta0 (by decide) rfl (fun f71 q72 ef71 gf71 tq72 => ?_)
      refine tt_iload_n (pc := 45) dX7_isStep_45 (.tail _ (.tail _ (.head _))) ?_
      refine tw_ild (pc := 46) dX7_isStep_46 hw tq72 rfl (by omega) (by omega) (fun f74 x73 ef74 gf74 lx73 ux73 => ?_)
      refine tw_iadd (pc := 47) dX7_isStep_47 (by omega) (fun x75 ex75 => ?_)
      refine tw_ild (pc := 48) dX7_isStep_48 hw tq51 rfl (by omega) (by omega) (fun f77 x76 ef77 gf77 lx76 ux76 => ?_)
      refine tt_iload_n (pc := 49) dX7_isStep_49 (.tail _ (.tail _ (.head _))) ?_
      refine tt_ishr (pc := 50) dX7_isStep_50 ?_
      refine tw_def (fun x78 qx78 => ?_)
      have bx78 := i_ty x78
      refine tw_iconst (pc := 51) dX7_isStep_51 (by decide) (fun x79 ex79 => ?_)
      refine tt_iand (pc := 52) dX7_isStep_52 ?_
      refine tw_def (fun x80 qx80 => ?_)
      have bx80 := i_ty x80
      refine tw_iconst (pc := 53) dX7_isStep_53 (by decide) (fun x81 ex81 => ?_)
      refine tw_icmp (tgt := 61) (pc := 54) dX7_isStep_54 (by decide) (fun (c82 : x80.toInt ≠ x81.toInt) => ?_) (fun (c82 : ¬ (x80.toInt ≠ x81.toInt)) => ?_)
      · skip
        have bt83 : ¬ BIT x76 a2 := by
          have o9 : x79 = 1 := Int32.toInt_inj.mp (by rw [ex79]; rfl)
          have e9 : x80 = (x76 >>> (a2 &&& 31)) &&& 1 := by rw [qx80, qx78, o9]
          unfold BIT
          rw [← e9]
          omega
        refine tw_iconst (pc := 61) dX7_isStep_61 (by decide) (fun x85 ex85 => ?_)
        refine tt_stop ?_
        rw [hQ]
        have np : ∀ lo hi : Int32, ¬ STEP τ h a1.toInt.toNat a2.toInt.toNat a2 lo hi := by
          rintro lo9 hi9 ⟨ld9, k19, k29, s1, s2, s3, s4, s5, s6, s7, s8⟩
          have z1 := arv_is hw.2.2.2 (by decide) s1 tq45 ef47 gf47 rfl
          subst z1
          have z2 := arv_is hw.2.2.2 (by decide) s3 tq55 ef57 gf57 rfl
          subst z2
          have z3 := arv_is hw.2.2.2 (by decide) s5 tq51 ef60 gf60 (by show x58.toInt.toNat = _; omega)
          subst z3
          have z4 := arv_is hw.2.2.2 (by decide) s4 tq72 ef74 gf74 rfl
          subst z4
          have z5 := arv_is hw.2.2.2 (by decide) s6 tq51 ef77 gf77 (by show x75.toInt.toNat = _; omega)
          subst z5
          exact bt83 s8
        exact Or.inr (Or.inl ⟨x85, dX7_isStep_62, rfl, Or.inr ⟨rfl, bool01 (by omega) (by omega)⟩, rfl, x85, rfl, ⟨by omega, by omega⟩, fun z => absurd (by omega) z, fun _ => np⟩)
      · skip
        have bt84 : BIT x76 a2 := by
          have o9 : x79 = 1 := Int32.toInt_inj.mp (by rw [ex79]; rfl)
          have e9 : x80 = (x76 >>> (a2 &&& 31)) &&& 1 := by rw [qx80, qx78, o9]
          unfold BIT
          rw [← e9]
          omega
        refine tw_iconst (pc := 57) dX7_isStep_57 (by decide) (fun x86 ex86 => ?_)
        refine tt_goto (tgt := 62) (pc := 58) dX7_isStep_58 (by decide) ?_
        refine tt_stop ?_
        rw [hQ]
        exact Or.inr (Or.inl ⟨x86, dX7_isStep_62, rfl, Or.inr ⟨rfl, bool01 (by omega) (by omega)⟩, rfl, x86, rfl, ⟨by omega, by omega⟩, fun _ => ⟨x56, x73, x46, x59, x76, ⟨q45, _, _, tq45, ef47, gf47⟩, by omega, ⟨q55, _, _, tq55, ef57, gf57⟩, ⟨q72, _, _, tq72, ef74, gf74⟩, ⟨q51, _, _, tq51, ef60, by rw [show 8 * a1.toInt.toNat + x56.toInt.toNat = x58.toNatClampNeg from by show _ = x58.toInt.toNat; omega]; exact gf60⟩, ⟨q51, _, _, tq51, ef77, by rw [show 8 * a1.toInt.toNat + x73.toInt.toNat = x75.toNatClampNeg from by show _ = x75.toInt.toNat; omega]; exact gf77⟩, bt67, bt84⟩, fun z => absurd z (by omega)⟩)
