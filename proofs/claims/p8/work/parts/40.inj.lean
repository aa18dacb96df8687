abbrev mX3_init : tM := (RX3, cX3_init, 3, 1, 20, true)
set_option maxHeartbeats 4000000 in
theorem g_X3_init {l : Launch} {D : va_G} {N : Nat} {pk : Int} {τ : List Nat} (hN2 : 2 ≤ N) (hN8 : N ≤ 8) (hp0 : 0 ≤ pk) (hp64 : pk ≤ 64) {h : List tC} (hw : WT N pk τ h) (a0 : Nat) (ta0 : τ[a0]? = some 3) (a1 : Int32) (la1 : 0 ≤ a1.toInt) (ua1 : a1.toInt ≤ 7) (a2 : Int32) : TMc l D yX3_init cX3_init 3 none 1 20 0 0 [.inr (some a0), .inl a1, .inl a2] h (fun rv h' => WT N pk τ h' ∧ Fr PX τ h h' ∧ rv = none) := by
  refine tmc_of true rfl (by decide) (Nat.le_of_ble_eq_true rfl) ?_
  suffices HQ : ∀ Q0, Q0 = tRt cX3_init none (fun rv h' => WT N pk τ h' ∧ Fr PX τ h h' ∧ rv = none) → TT l D mX3_init Q0 0 0 0 [(0, .inr (some a0)), (1, .inl a1), (2, .inl a2)] [] h from HQ _ rfl
  intro Q0 hQ
  have hf : Fr PX τ h h := Fr.rf
  have ba2 := i_ty a2
  refine tt_aload_n (pc := 0) dX3_init_0 (.head _) ?_
  refine tt_obj (pc := 1) dX3_init_1 olX3_3 oi_obj oc_obj (by decide) (Nat.le_of_ble_eq_true rfl) ?_
  refine tt_aload_n (pc := 4) dX3_init_4 (.head _) ?_
  refine tw_iconst (pc := 5) dX3_init_5 (by decide) (fun x24 ex24 => ?_)
  refine tw_put (P := PX) (pc := 6) dX3_init_6 flX3_9 hw ta0 (by decide) rfl ⟨by omega, by omega⟩ rfl (by decide) (by decide) (fun f25 h26 eh26 gh26 kh26 wh26 fh26 => ?_)
  have hfh26 := hf.tr fh26
  refine tt_aload_n (pc := 9) dX3_init_9 (.head _) ?_
  refine tw_iconst (pc := 10) dX3_init_10 (by decide) (fun x27 ex27 => ?_)
  refine tw_put (P := PX) (pc := 11) dX3_init_11 flX3_15 wh26 ta0 (by decide) rfl ⟨by omega, by omega⟩ rfl (by decide) (by decide) (fun f28 h29 eh29 gh29 kh29 wh29 fh29 => ?_)
  have hfh29 := hfh26.tr fh29
  have G30 : (f28.set 3 (.inl x27 : tV))[2]? = some (.inl x24 : tV) := by
      rw [List.getElem?_set_ne (by decide)]
      have z9 := gh26.symm.trans eh29
      cases z9
      exact (List.getElem?_set_self kh26)
  refine tt_aload_n (pc := 14) dX3_init_14 (.head _) ?_
  refine tw_iconst (pc := 15) dX3_init_15 (by decide) (fun x31 ex31 => ?_)
  refine tw_put (P := PX) (pc := 16) dX3_init_16 flX3_18 wh29 ta0 (by decide) rfl ⟨by omega, by omega⟩ rfl (by decide) (by decide) (fun f32 h33 eh33 gh33 kh33 wh33 fh33 => ?_)
  have hfh33 := hfh29.tr fh33
  have G34 : (f32.set 4 (.inl x31 : tV))[3]? = some (.inl x27 : tV) := by
      rw [List.getElem?_set_ne (by decide)]
      have z9 := gh29.symm.trans eh33
      cases z9
      exact (List.getElem?_set_self kh29)
  have G35 : (f32.set 4 (.inl x31 : tV))[2]? = some (.inl x24 : tV) := by
      rw [List.getElem?_set_ne (by decide)]
      have z9 := gh29.symm.trans eh33
      cases z9
      exact G30
  refine tt_aload_n (pc := 19) dX3_init_19 (.head _) ?_
  refine tt_iload_n (pc := 20) dX3_init_20 (.tail _ (.head _)) ?_
  refine tw_putF (P := PX) (pc := 21) dX3_init_21 flX3_21 rfl rfl wh33 ta0 (by decide) rfl ⟨by omega, by omega⟩ rfl (by decide) (by decide) (fun f36 h37 eh37 gh37 kh37 wh37 fh37 => ?_)
  have hfh37 := hfh33.tr fh37
  have G38 : (f36.set 0 (.inl a1 : tV))[4]? = some (.inl x31 : tV) := by
      rw [List.getElem?_set_ne (by decide)]
      have z9 := gh33.symm.trans eh37
      cases z9
      exact (List.getElem?_set_self kh33)
  have G39 : (f36.set 0 (.inl a1 : tV))[3]? = some (.inl x27 : tV) := by
      rw [List.getElem?_set_ne (by decide)]
      have z9 := gh33.symm.trans eh37
      cases z9
      exact G34
  have G40 : (f36.set 0 (.inl a1 : tV))[2]? = some (.inl x24 : tV) := by
      rw [List.getElem?_set_ne (by decide)]
      have z9 := gh33.symm.trans eh37
      cases z9
      exact G35
  refine tt_aload_n (pc := 24) dX3_init_24 (.head _) ?_
  refine tt_iload_n (pc := 25) dX3_init_25 (.tail _ (.tail _ (.head _))) ?_
  refine tw_put (P := PX) (pc := 26) dX3_init_26 flX3_24 wh37 ta0 (by decide) rfl ⟨by omega, by omega⟩ rfl (by decide) (by decide) (fun f41 h42 eh42 gh42 kh42 wh42 fh42 => ?_)
  have hfh42 := hfh37.tr fh42
  have G43 : (f41.set 1 (.inl a2 : tV))[0]? = some (.inl a1 : tV) := by
      rw [List.getElem?_set_ne (by decide)]
      have z9 := gh37.symm.trans eh42
      cases z9
      exact (List.getElem?_set_self kh37)
  have G44 : (f41.set 1 (.inl a2 : tV))[4]? = some (.inl x31 : tV) := by
      rw [List.getElem?_set_ne (by decide)]
      have z9 := gh37.symm.trans eh42
      cases z9
      exact G38
  have G45 : (f41.set 1 (.inl a2 : tV))[3]? = some (.inl x27 : tV) := by
      rw [List.getElem?_set_ne (by decide)]
      have z9 := gh37.symm.trans eh42
      cases z9
      exact G39
  have G46 : (f41.set 1 (.inl a2 : tV))[2]? = some (.inl x24 : tV) := by
      rw [List.getElem?_set_ne (by decide)]
      have z9 := gh37.symm.trans eh42
      cases z9
      exact G40
  refine tt_stop ?_
  rw [hQ]
  exact Or.inl ⟨dX3_init_29, rfl, rfl, wh42, hfh42, rfl⟩
abbrev mX6_inject : tM := (RX6, cX6_inject, 5, 5, 122, false)
set_option maxHeartbeats 4000000 in
theorem h_X6_inject {l : Launch} {D : va_G} {N : Nat} {pk : Int} {τ : List Nat} (hN2 : 2 ≤ N) (hN8 : N ≤ 8) (hp0 : 0 ≤ pk) (hp64 : pk ≤ 64) {h : List tC} (hw : WT N pk τ h) (a0 : Nat) (ta0 : τ[a0]? = some 6) (a1 : Int32) (a2 : Int32) (a3 : Int32) : TT l D mX6_inject (fun pc' loc' st' h' => tRt cX6_inject (some .int) (fun rv h' => ∃ τ1 : List Nat, tPre τ τ1 ∧ WT N (pk + 1) τ1 h' ∧ Fr PXi τ h h' ∧ (∃ x : Int32, rv = some (.inl x) ∧ x.toInt = pk) ∧ (0 ≤ a1.toInt ∧ a1.toInt ≤ (N : Int) - 1 ∧ 0 ≤ a2.toInt ∧ a2.toInt ≤ 7) ∧ 0 ≤ a3.toInt ∧ a3.toInt ≤ 60 ∧ pk < 64) pc' loc' st' h' ∨ (pc' = 15 ∧ st' = [] ∧ h' = h ∧ ¬ (0 ≤ a1.toInt ∧ a1.toInt ≤ (N : Int) - 1 ∧ 0 ≤ a2.toInt ∧ a2.toInt ≤ 7)) ∨ (pc' = 44 ∧ st' = [] ∧ h' = h ∧ (0 ≤ a1.toInt ∧ a1.toInt ≤ (N : Int) - 1 ∧ 0 ≤ a2.toInt ∧ a2.toInt ≤ 7) ∧ (a3.toInt < 0 ∨ 60 < a3.toInt ∨ 64 ≤ pk))) 1 5 0 [(0, .inr (some a0)), (1, .inl a1), (2, .inl a2), (3, .inl a3)] [] h := by
  suffices HQ : ∀ Q0, Q0 = (fun pc' loc' st' h' => tRt cX6_inject (some .int) (fun rv h' => ∃ τ1 : List Nat, tPre τ τ1 ∧ WT N (pk + 1) τ1 h' ∧ Fr PXi τ h h' ∧ (∃ x : Int32, rv = some (.inl x) ∧ x.toInt = pk) ∧ (0 ≤ a1.toInt ∧ a1.toInt ≤ (N : Int) - 1 ∧ 0 ≤ a2.toInt ∧ a2.toInt ≤ 7) ∧ 0 ≤ a3.toInt ∧ a3.toInt ≤ 60 ∧ pk < 64) pc' loc' st' h' ∨ (pc' = 15 ∧ st' = [] ∧ h' = h ∧ ¬ (0 ≤ a1.toInt ∧ a1.toInt ≤ (N : Int) - 1 ∧ 0 ≤ a2.toInt ∧ a2.toInt ≤ 7)) ∨ (pc' = 44 ∧ st' = [] ∧ h' = h ∧ (0 ≤ a1.toInt ∧ a1.toInt ≤ (N : Int) - 1 ∧ 0 ≤ a2.toInt ∧ a2.toInt ≤ 7) ∧ (a3.toInt < 0 ∨ 60 < a3.toInt ∨ 64 ≤ pk))) → TT l D mX6_inject Q0 1 5 0 [(0, .inr (some a0)), (1, .inl a1), (2, .inl a2), (3, .inl a3)] [] h from HQ _ rfl
  intro Q0 hQ
  have hf : Fr PXi τ h h := Fr.rf
  have hp : tPre τ τ := tPre.rf τ
  have ba1 := i_ty a1
  have ba2 := i_ty a2
  have ba3 := i_ty a3
  refine tt_aload_n (pc := 0) dX6_inject_0 (.head _) ?_
  refine tt_iload_n (pc := 1) dX6_inject_1 (.tail _ (.head _)) ?_
  refine tw_callV (kc := 1) (ks := 5) (mc := 0) (ms := 0) (as := [.inl a1]) (st := []) (pc := 2) hw ta0 (by decide) dX6_inject_2 lkX6_62 imX6_isRouter seX6_isRouter rfl rfl (by decide) (by decide) (Nat.le_of_ble_eq_true rfl) (g_X6_isRouter hN2 hN8 hp0 hp64 hw a0 ta0 a1) (fun rv h37 qh37 => ?_)
  obtain ⟨rfl, x38, rfl, lx38, ux38, Gx38, Zx38⟩ := qh37
  show TT _ _ _ _ _ _ _ _ [.inl x38] _
  refine tw_if (tgt := 15) (pc := 5) dX6_inject_5 (by decide) (fun (c41 : x38.toInt = 0) => ?_) (fun (c41 : ¬ (x38.toInt = 0)) => ?_)
  · skip
    refine tt_stop ?_
    rw [hQ]
    exact Or.inr (Or.inl ⟨rfl, rfl, rfl, by omega⟩)
  · obtain ⟨b39, b40⟩ := Gx38 (by omega)
    refine tt_iload_n (pc := 8) dX6_inject_8 (.tail _ (.tail _ (.head _))) ?_
    refine tt_callS (kc := 1) (ks := 5) (mc := 0) (ms := 0) (as := [.inl a2]) (st := []) (pc := 9) dX6_inject_9 lkX6_103 smX6_isPrefix rfl (by decide) (by decide) (Nat.le_of_ble_eq_true rfl) (g_X6_isPrefix hN2 hN8 hp0 hp64 hw a2) (fun rv h42 qh42 => ?_)
    obtain ⟨rfl, x43, rfl, lx43, ux43, Gx43, Zx43⟩ := qh42
    show TT _ _ _ _ _ _ _ _ [.inl x43] _
    refine tw_if (tgt := 25) (pc := 12) dX6_inject_12 (by decide) (fun (c46 : x43.toInt ≠ 0) => ?_) (fun (c46 : ¬ (x43.toInt ≠ 0)) => ?_)
    · obtain ⟨b44, b45⟩ := Gx43 (by omega)
      refine tt_iload_n (pc := 25) dX6_inject_25 (.tail _ (.tail _ (.tail _ (.head _)))) ?_
      refine tw_if (tgt := 44) (pc := 26) dX6_inject_26 (by decide) (fun (c47 : a3.toInt < 0) => ?_) (fun (c47 : ¬ (a3.toInt < 0)) => ?_)
      · skip
        refine tt_stop ?_
        rw [hQ]
        exact Or.inr (Or.inr ⟨rfl, rfl, rfl, ⟨by omega, by omega, by omega, by omega⟩, by omega⟩)
      · skip
        refine tt_iload_n (pc := 29) dX6_inject_29 (.tail _ (.tail _ (.tail _ (.head _)))) ?_
        refine tw_bipush (pc := 30) dX6_inject_30 (by decide) (fun x48 ex48 => ?_)
        refine tw_icmp (tgt := 44) (pc := 32) dX6_inject_32 (by decide) (fun (c49 : x48.toInt < a3.toInt) => ?_) (fun (c49 : ¬ (x48.toInt < a3.toInt)) => ?_)
        · skip
          refine tt_stop ?_
          rw [hQ]
          exact Or.inr (Or.inr ⟨rfl, rfl, rfl, ⟨by omega, by omega, by omega, by omega⟩, by omega⟩)
        · skip
          refine tt_aload_n (pc := 35) dX6_inject_35 (.head _) ?_
          refine tw_geti (pc := 36) dX6_inject_36 flX6_25 hw ta0 (by decide) rfl (fun f50 x51 ef50 gf50 lx51 ux51 => ?_)
          refine tw_bipush (pc := 39) dX6_inject_39 (by decide) (fun x52 ex52 => ?_)
          refine tw_icmp (tgt := 54) (pc := 41) dX6_inject_41 (by decide) (fun (c53 : x51.toInt < x52.toInt) => ?_) (fun (c53 : ¬ (x51.toInt < x52.toInt)) => ?_)
          · skip
            refine tt_aload_n (pc := 54) dX6_inject_54 (.head _) ?_
            refine tt_get (pc := 55) dX6_inject_55 flX6_25 ef50 gf50 ?_
            refine tt_istore (pc := 58) dX6_inject_58 (by decide) ?_
            show TT _ _ _ _ _ _ _ [(4, .inl x51), (0, .inr (some a0)), (1, .inl a1), (2, .inl a2), (3, .inl a3)] _ _
            refine tt_aload_n (pc := 60) dX6_inject_60 (.tail _ (.head _)) ?_
            refine tw_getr (pc := 61) dX6_inject_61 flX6_21 hw ta0 (by decide) rfl (fun f54 q55 ef54 gf54 tq55 => ?_)
            refine tt_iload (pc := 64) dX6_inject_64 (.head _) ?_
            refine tw_newP (P := PXi) (kc := 0) (ks := 0) (pc := 66) dX6_inject_66 klX6_19 hw (fun q56 h57 tq56 wh57 fh57 => ?_)
            have ph57 : tPre τ (τ ++ [3]) := ⟨_, rfl⟩
            have hfh57 := hf.tr (fh57.sub hp)
            have ta0 := tup ph57 ta0
            have tq55 := tup ph57 tq55
            have hp58 := hp.tr ph57
            refine tt_dup (pc := 69) dX6_inject_69 ?_
            refine tt_iload_n (pc := 70) dX6_inject_70 (.tail _ (.tail _ (.tail _ (.head _)))) ?_
            refine tt_iload_n (pc := 71) dX6_inject_71 (.tail _ (.tail _ (.tail _ (.tail _ (.head _))))) ?_
            refine tt_callI (kc := 0) (ks := 0) (mc := 0) (ms := 0) (a := q56) (as := [.inl a2, .inl a3]) (st := [.inr (some q56), .inl x51, .inr (some q55)]) (pc := 72) dX6_inject_72 lkX6_148 imX3_init rfl rfl (by decide) (by decide) (Nat.le_of_ble_eq_true rfl) (g_X3_init hN2 hN8 hp0 hp64 wh57 q56 tq56 a2 (by omega) (by omega) a3) (fun rv h59 qh59 => ?_)
            obtain ⟨wh59, fh59, rfl⟩ := qh59
            have hfh59 := hfh57.tr ((fh59.weak weak_PX_PXi).sub hp58)
            show TT _ _ _ _ _ _ _ _ [.inr (some q56), .inl x51, .inr (some q55)] _
            refine tw_ast (P := PXi) (pc := 75) dX6_inject_75 wh59 tq55 rfl (by decide) tq56 (by decide) rfl rfl (by omega) (by omega) (by decide) (fun f60 h61 eh61 gh61 kh61 wh61 fh61 => ?_)
            have hfh61 := hfh59.tr (fh61.sub hp58)
            refine tt_aload_n (pc := 76) dX6_inject_76 (.tail _ (.head _)) ?_
            refine tt_dup (pc := 77) dX6_inject_77 ?_
            refine tw_geti (pc := 78) dX6_inject_78 flX6_25 wh61 ta0 (by decide) rfl (fun f62 x63 ef62 gf62 lx63 ux63 => ?_)
            refine tw_iconst (pc := 81) dX6_inject_81 (by decide) (fun x64 ex64 => ?_)
            refine tw_iadd (pc := 82) dX6_inject_82 (by omega) (fun x65 ex65 => ?_)
            obtain ⟨f6, e6, l6, -⟩ := wt_obj wh61 ta0 (by decide)
            refine tt_put (pc := 83) dX6_inject_83 flX6_25 (Or.inl rfl) e6 (by rw [l6]; exact Nat.le_of_ble_eq_true rfl) rfl ?_
            have wh66 := wt_pk wh61 ta0 tq55 e6 gh61 (n := x51.toNatClampNeg) (by show ((x51.toInt.toNat : Nat) : Int) = pk; omega) (List.getElem?_set_self kh61) (x := x65) (by omega)
            have fh66 : Fr PXi (τ ++ [3]) h61 (h61.set a0 (.inr (.inr (6, f6.set 4 (.inl x65))))) := fr_puto wh61.1 ta0 e6 (by decide)
            obtain ⟨h66, eH⟩ : ∃ z, z = (h61.set a0 (.inr (.inr (6, f6.set 4 (.inl x65))))) := ⟨_, rfl⟩
            rw [← eH] at wh66 fh66 ⊢
            have hfh66 := hfh61.tr (fh66.sub hp58)
            have hp0 : 0 ≤ pk + 1 := by omega
            have hp64 : pk + 1 ≤ 64 := by omega
            refine tt_aload_n (pc := 86) dX6_inject_86 (.tail _ (.head _)) ?_
            refine tt_aload_n (pc := 87) dX6_inject_87 (.tail _ (.head _)) ?_
            refine tw_getr (pc := 88) dX6_inject_88 flX6_50 wh66 ta0 (by decide) rfl (fun f67 q68 ef67 gf67 tq68 => ?_)
            refine tt_iload_n (pc := 91) dX6_inject_91 (.tail _ (.tail _ (.head _))) ?_
            refine tw_ald (pc := 92) dX6_inject_92 wh66 tq68 rfl (by decide) (by omega) (by omega) (fun f69 q70 ef69 gf69 tq70 => ?_)
            refine tt_iload (pc := 93) dX6_inject_93 (.head _) ?_
            refine tw_iconst (pc := 95) dX6_inject_95 (by decide) (fun x71 ex71 => ?_)
            refine tw_callV (kc := 0) (ks := 0) (mc := 0) (ms := 0) (as := [.inr (some q70), .inl x51, .inl x71]) (st := []) (pc := 96) wh66 ta0 (by decide) dX6_inject_96 lkX6_151 imX6_packetComes seX6_packetComes rfl rfl (by decide) (by decide) (Nat.le_of_ble_eq_true rfl) (g_X6_packetComes hN2 hN8 hp0 hp64 wh66 a0 ta0 q70 tq70 x51 (by omega) (by omega) x71) (fun rv h72 qh72 => ?_)
            obtain ⟨wh72, fh72, rfl⟩ := qh72
            have hfh72 := hfh66.tr ((fh72.weak weak_PX_PXi).sub hp58)
            show TT _ _ _ _ _ _ _ _ [] _
            refine tt_iload (pc := 99) dX6_inject_99 (.head _) ?_
            refine tt_stop ?_
            rw [hQ]
            exact Or.inl (Or.inr (Or.inl ⟨x51, dX6_inject_101, rfl, Or.inl rfl, _, hp58, wh72, hfh72, ⟨x51, rfl, by omega⟩, ⟨by omega, by omega, by omega, by omega⟩, by omega, by omega, by omega⟩))
          · skip
            refine tt_stop ?_
            rw [hQ]
            exact Or.inr (Or.inr ⟨rfl, rfl, rfl, ⟨by omega, by omega, by omega, by omega⟩, by omega⟩)
    · skip
      refine tt_stop ?_
      rw [hQ]
      exact Or.inr (Or.inl ⟨rfl, rfl, rfl, by omega⟩)
