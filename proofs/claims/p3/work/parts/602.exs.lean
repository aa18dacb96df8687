set_option maxHeartbeats 4000000 in
theorem g_X6_comesUpE {l : Launch} {D : va_G} {N : Nat} {pk : Int} {τ : List Nat} (hN2 : 2 ≤ N) (hN8 : N ≤ 8) (hp0 : 0 ≤ pk) (hp64 : pk ≤ 64) {h : List tC} (hw : WT N pk τ h) (a0 : Nat) (ta0 : τ[a0]? = some 6) (a1 : Int32) (la1 : 0 ≤ a1.toInt) (ua1 : a1.toInt ≤ 11) : TMc l D yX6_comesUp cX6_comesUp 5 none 5 119 2 8 [.inr (some a0), .inl a1] h (fun rv h' => ∃ τ1 : List Nat, tPre τ τ1 ∧ WT N pk τ1 h' ∧ Fr PXt τ h h' ∧ rv = none ∧ UPS τ h h' a0 a1.toNatClampNeg 1) := by
  refine tmc_of false rfl (by decide) (Nat.le_of_ble_eq_true rfl) ?_
  suffices HQ : ∀ Q0, Q0 = tRt cX6_comesUp none (fun rv h' => ∃ τ1 : List Nat, tPre τ τ1 ∧ WT N pk τ1 h' ∧ Fr PXt τ h h' ∧ rv = none ∧ UPS τ h h' a0 a1.toNatClampNeg 1) → TT l D mX6_comesUp Q0 2 8 0 [(0, .inr (some a0)), (1, .inl a1)] [] h from HQ _ rfl
  intro Q0 hQ
  have hf : Fr PXt τ h h := Fr.rf
  have hp : tPre τ τ := tPre.rf τ
  refine tt_aload_n (pc := 0) dX6_comesUp_0 (.head _) ?_
  refine tw_getr (pc := 1) dX6_comesUp_1 flX6_11 hw ta0 (by decide) rfl (fun f27 q28 ef27 gf27 tq28 => ?_)
  refine tt_iload_n (pc := 4) dX6_comesUp_4 (.tail _ (.head _)) ?_
  refine tw_ald (pc := 5) dX6_comesUp_5 hw tq28 rfl (by decide) (by omega) (by omega) (fun f29 q30 ef29 gf29 tq30 => ?_)
  refine tt_astore_n (pc := 6) dX6_comesUp_6 (by decide) ?_
  show TT _ _ _ _ _ _ _ [(2, .inr (some q30)), (0, .inr (some a0)), (1, .inl a1)] _ _
  refine tt_aload_n (pc := 7) dX6_comesUp_7 (.tail _ (.head _)) ?_
  refine tw_getr (pc := 8) dX6_comesUp_8 flX6_50 hw ta0 (by decide) rfl (fun f31 q32 ef31 gf31 tq32 => ?_)
  refine tt_aload_n (pc := 11) dX6_comesUp_11 (.head _) ?_
  refine tw_geti (pc := 12) dX6_comesUp_12 flX6_81 hw tq30 (by decide) rfl (fun f33 x34 ef33 gf33 lx34 ux34 => ?_)
  refine tw_ald (pc := 15) dX6_comesUp_15 hw tq32 rfl (by decide) (by omega) (by omega) (fun f35 q36 ef35 gf35 tq36 => ?_)
  refine tt_astore_n (pc := 16) dX6_comesUp_16 (by decide) ?_
  show TT _ _ _ _ _ _ _ [(3, .inr (some q36)), (2, .inr (some q30)), (0, .inr (some a0)), (1, .inl a1)] _ _
  refine tt_aload_n (pc := 17) dX6_comesUp_17 (.tail _ (.tail _ (.head _))) ?_
  refine tt_get (pc := 18) dX6_comesUp_18 flX6_50 ef31 gf31 ?_
  refine tt_aload_n (pc := 21) dX6_comesUp_21 (.tail _ (.head _)) ?_
  refine tw_geti (pc := 22) dX6_comesUp_22 flX6_84 hw tq30 (by decide) rfl (fun f37 x38 ef37 gf37 lx38 ux38 => ?_)
  refine tw_ald (pc := 25) dX6_comesUp_25 hw tq32 rfl (by decide) (by omega) (by omega) (fun f39 q40 ef39 gf39 tq40 => ?_)
  refine tt_astore (pc := 26) dX6_comesUp_26 (by decide) ?_
  show TT _ _ _ _ _ _ _ [(4, .inr (some q40)), (3, .inr (some q36)), (2, .inr (some q30)), (0, .inr (some a0)), (1, .inl a1)] _ _
  refine tt_aload_n (pc := 28) dX6_comesUp_28 (.tail _ (.tail _ (.head _))) ?_
  refine tw_iconst (pc := 29) dX6_comesUp_29 (by decide) (fun x41 ex41 => ?_)
  obtain ⟨f6, e6, l6, -⟩ := wt_obj hw tq30 (by decide)
  refine tt_put (pc := 30) dX6_comesUp_30 flX6_92 (Or.inl rfl) e6 (by rw [l6]; exact Nat.le_of_ble_eq_true rfl) (tfb (by omega) (by omega)) ?_
  have wh42 : WT N pk τ (h.set q30 (.inr (.inr (0, f6.set 1 (.inl x41))))) := wt_puto hw tq30 (by decide) e6 (k := 1) (ft := booI) rfl (show vty τ booI (.inl x41) from ⟨by omega, by omega⟩) (by decide)
  have fh42 : Fr PXt τ h (h.set q30 (.inr (.inr (0, f6.set 1 (.inl x41))))) := fr_puto hw.1 tq30 e6 (by decide)
  have oh42 : ∀ q9 : Nat, q9 ≠ q30 → (h.set q30 (.inr (.inr (0, f6.set 1 (.inl x41)))))[q9]? = h[q9]? := fun q9 hq9 => List.getElem?_set_ne (Ne.symm hq9)
  have sh42 : (h.set q30 (.inr (.inr (0, f6.set 1 (.inl x41)))))[q30]? = some (.inr (.inr (0, f6.set 1 (.inl x41)))) := List.getElem?_set_self (t_at e6)
  have gh42 : (f6.set 1 (.inl x41 : tV))[1]? = some (.inl x41) := List.getElem?_set_self (by rw [l6]; exact Nat.le_of_ble_eq_true rfl)
  have XQ0 : XQ h a0 a1.toNatClampNeg q30 := ⟨_, _, _, ef27, gf27, ef29, gf29⟩
  have tq0 := tq30
  obtain ⟨h42, eH⟩ : ∃ z, z = (h.set q30 (.inr (.inr (0, f6.set 1 (.inl x41))))) := ⟨_, rfl⟩
  rw [← eH] at wh42 fh42 oh42 sh42 ⊢
  have hfh42 := hf.tr (fh42.sub hp)
  have F2h42 : Fr PK01 τ h42 h42 := Fr.rf
  refine tt_aload_n (pc := 33) dX6_comesUp_33 (.tail _ (.tail _ (.tail _ (.head _)))) ?_
  refine tt_aload_n (pc := 34) dX6_comesUp_34 (.tail _ (.head _)) ?_
  refine tw_callV (kc := 1) (ks := 4) (mc := 1) (ms := 4) (as := [.inr (some q36)]) (st := []) (pc := 35) wh42 ta0 (by decide) dX6_comesUp_35 lkX6_110 imX6_tell seX6_tell rfl rfl (by decide) (by decide) (Nat.le_of_ble_eq_true rfl) (g_X6_tell hN2 hN8 hp0 hp64 wh42 a0 ta0 q36 tq36) (fun rv h43 qh43 => ?_)
  obtain ⟨Th43, ph43, wh43, fh43, rfl⟩ := qh43
  have hfh43 := hfh42.tr ((fh43.weak weak_PX_PXt).sub hp)
  have F2h43 := F2h42.tr ((fh43.weak (only01 rfl)).sub hp)
  have ta0 := tup ph43 ta0
  have tq30 := tup ph43 tq30
  have tq36 := tup ph43 tq36
  have tq40 := tup ph43 tq40
  have hp44 := hp.tr ph43
  show TT _ _ _ _ _ _ _ _ [] _
  refine tt_aload_n (pc := 38) dX6_comesUp_38 (.tail _ (.tail _ (.tail _ (.head _)))) ?_
  refine tt_aload (pc := 39) dX6_comesUp_39 (.head _) ?_
  refine tw_callV (kc := 0) (ks := 0) (mc := 1) (ms := 4) (as := [.inr (some q40)]) (st := []) (pc := 41) wh43 ta0 (by decide) dX6_comesUp_41 lkX6_110 imX6_tell seX6_tell rfl rfl (by decide) (by decide) (Nat.le_of_ble_eq_true rfl) (g_X6_tell hN2 hN8 hp0 hp64 wh43 a0 ta0 q40 tq40) (fun rv h45 qh45 => ?_)
  obtain ⟨Th45, ph45, wh45, fh45, rfl⟩ := qh45
  have hfh45 := hfh43.tr ((fh45.weak weak_PX_PXt).sub hp44)
  have F2h45 := F2h43.tr ((fh45.weak (only01 rfl)).sub hp44)
  have ta0 := tup ph45 ta0
  have tq30 := tup ph45 tq30
  have tq36 := tup ph45 tq36
  have tq40 := tup ph45 tq40
  have hp46 := hp44.tr ph45
  show TT _ _ _ _ _ _ _ _ [] _
  refine tt_aload_n (pc := 44) dX6_comesUp_44 (.tail _ (.tail _ (.tail _ (.head _)))) ?_
  refine tt_aload_n (pc := 45) dX6_comesUp_45 (.tail _ (.head _)) ?_
  refine tt_iload_n (pc := 46) dX6_comesUp_46 (.tail _ (.tail _ (.tail _ (.tail _ (.head _))))) ?_
  refine tw_callV (kc := 0) (ks := 0) (mc := 0) (ms := 0) (as := [.inr (some q36), .inl a1]) (st := []) (pc := 47) wh45 ta0 (by decide) dX6_comesUp_47 lkX6_232 imX6_putKnownNotes seX6_putKnownNotes rfl rfl (by decide) (by decide) (Nat.le_of_ble_eq_true rfl) (g_X6_putKnownNotes hN2 hN8 hp0 hp64 wh45 a0 ta0 q36 tq36 a1 (by omega) (by omega)) (fun rv h47 qh47 => ?_)
  obtain ⟨wh47, fh47, rfl⟩ := qh47
  have hfh47 := hfh45.tr ((fh47.weak weak_PX_PXt).sub hp46)
  have F2h47 := F2h45.tr ((fh47.weak (only01 rfl)).sub hp46)
  show TT _ _ _ _ _ _ _ _ [] _
  refine tt_aload_n (pc := 50) dX6_comesUp_50 (.tail _ (.tail _ (.tail _ (.head _)))) ?_
  refine tt_aload (pc := 51) dX6_comesUp_51 (.head _) ?_
  refine tt_iload_n (pc := 53) dX6_comesUp_53 (.tail _ (.tail _ (.tail _ (.tail _ (.head _))))) ?_
  refine tw_callV (kc := 0) (ks := 0) (mc := 0) (ms := 0) (as := [.inr (some q40), .inl a1]) (st := []) (pc := 54) wh47 ta0 (by decide) dX6_comesUp_54 lkX6_232 imX6_putKnownNotes seX6_putKnownNotes rfl rfl (by decide) (by decide) (Nat.le_of_ble_eq_true rfl) (g_X6_putKnownNotes hN2 hN8 hp0 hp64 wh47 a0 ta0 q40 tq40 a1 (by omega) (by omega)) (fun rv h48 qh48 => ?_)
  obtain ⟨wh48, fh48, rfl⟩ := qh48
  have hfh48 := hfh47.tr ((fh48.weak weak_PX_PXt).sub hp46)
  have F2h48 := F2h47.tr ((fh48.weak (only01 rfl)).sub hp46)
  show TT _ _ _ _ _ _ _ _ [] _
  refine tt_aload_n (pc := 57) dX6_comesUp_57 (.tail _ (.tail _ (.tail _ (.head _)))) ?_
  refine tt_aload_n (pc := 58) dX6_comesUp_58 (.tail _ (.head _)) ?_
  refine tt_iload_n (pc := 59) dX6_comesUp_59 (.tail _ (.tail _ (.tail _ (.tail _ (.head _))))) ?_
  refine tw_callV (kc := 0) (ks := 0) (mc := 0) (ms := 0) (as := [.inr (some q36), .inl a1]) (st := []) (pc := 60) wh48 ta0 (by decide) dX6_comesUp_60 lkX6_236 imX6_putMappings seX6_putMappings rfl rfl (by decide) (by decide) (Nat.le_of_ble_eq_true rfl) (g_X6_putMappings hN2 hN8 hp0 hp64 wh48 a0 ta0 q36 tq36 a1 (by omega) (by omega)) (fun rv h49 qh49 => ?_)
  obtain ⟨wh49, fh49, rfl⟩ := qh49
  have hfh49 := hfh48.tr ((fh49.weak weak_PX_PXt).sub hp46)
  have F2h49 := F2h48.tr ((fh49.weak (only01 rfl)).sub hp46)
  show TT _ _ _ _ _ _ _ _ [] _
  refine tt_aload_n (pc := 63) dX6_comesUp_63 (.tail _ (.tail _ (.tail _ (.head _)))) ?_
  refine tt_aload (pc := 64) dX6_comesUp_64 (.head _) ?_
  refine tt_iload_n (pc := 66) dX6_comesUp_66 (.tail _ (.tail _ (.tail _ (.tail _ (.head _))))) ?_
  refine tw_callV (kc := 0) (ks := 0) (mc := 0) (ms := 0) (as := [.inr (some q40), .inl a1]) (st := []) (pc := 67) wh49 ta0 (by decide) dX6_comesUp_67 lkX6_236 imX6_putMappings seX6_putMappings rfl rfl (by decide) (by decide) (Nat.le_of_ble_eq_true rfl) (g_X6_putMappings hN2 hN8 hp0 hp64 wh49 a0 ta0 q40 tq40 a1 (by omega) (by omega)) (fun rv h50 qh50 => ?_)
  obtain ⟨wh50, fh50, rfl⟩ := qh50
  have hfh50 := hfh49.tr ((fh50.weak weak_PX_PXt).sub hp46)
  have F2h50 := F2h49.tr ((fh50.weak (only01 rfl)).sub hp46)
  show TT _ _ _ _ _ _ _ _ [] _
  refine tt_aload_n (pc := 70) dX6_comesUp_70 (.tail _ (.tail _ (.tail _ (.head _)))) ?_
  refine tt_aload_n (pc := 71) dX6_comesUp_71 (.tail _ (.head _)) ?_
  refine tw_callV (kc := 0) (ks := 0) (mc := 0) (ms := 0) (as := [.inr (some q36)]) (st := []) (pc := 72) wh50 ta0 (by decide) dX6_comesUp_72 lkX6_114 imX6_check seX6_check rfl rfl (by decide) (by decide) (Nat.le_of_ble_eq_true rfl) (g_X6_check hN2 hN8 hp0 hp64 wh50 a0 ta0 q36 tq36) (fun rv h51 qh51 => ?_)
  obtain ⟨wh51, fh51, rfl⟩ := qh51
  have hfh51 := hfh50.tr ((fh51.weak weak_PX_PXt).sub hp46)
  have F2h51 := F2h50.tr ((fh51.weak (only01 rfl)).sub hp46)
  show TT _ _ _ _ _ _ _ _ [] _
  refine tt_aload_n (pc := 75) dX6_comesUp_75 (.tail _ (.tail _ (.tail _ (.head _)))) ?_
  refine tt_aload (pc := 76) dX6_comesUp_76 (.head _) ?_
  refine tw_callV (kc := 0) (ks := 0) (mc := 0) (ms := 0) (as := [.inr (some q40)]) (st := []) (pc := 78) wh51 ta0 (by decide) dX6_comesUp_78 lkX6_114 imX6_check seX6_check rfl rfl (by decide) (by decide) (Nat.le_of_ble_eq_true rfl) (g_X6_check hN2 hN8 hp0 hp64 wh51 a0 ta0 q40 tq40) (fun rv h52 qh52 => ?_)
  obtain ⟨wh52, fh52, rfl⟩ := qh52
  have hfh52 := hfh51.tr ((fh52.weak weak_PX_PXt).sub hp46)
  have F2h52 := F2h51.tr ((fh52.weak (only01 rfl)).sub hp46)
  show TT _ _ _ _ _ _ _ _ [] _
  refine tt_stop ?_
  rw [hQ]
  exact Or.inl ⟨dX6_comesUp_81, rfl, rfl, _, hp46, wh52, hfh52, rfl, ups_of XQ0 tq0 oh42 sh42 gh42 (by omega) wh42 F2h52⟩
set_option maxHeartbeats 4000000 in
theorem g_X6_goesDownE {l : Launch} {D : va_G} {N : Nat} {pk : Int} {τ : List Nat} (hN2 : 2 ≤ N) (hN8 : N ≤ 8) (hp0 : 0 ≤ pk) (hp64 : pk ≤ 64) {h : List tC} (hw : WT N pk τ h) (a0 : Nat) (ta0 : τ[a0]? = some 6) (a1 : Int32) (la1 : 0 ≤ a1.toInt) (ua1 : a1.toInt ≤ 11) : TMc l D yX6_goesDown cX6_goesDown 5 none 5 119 2 8 [.inr (some a0), .inl a1] h (fun rv h' => ∃ τ1 : List Nat, tPre τ τ1 ∧ WT N pk τ1 h' ∧ Fr PXt τ h h' ∧ rv = none ∧ UPS τ h h' a0 a1.toNatClampNeg 0) := by
  refine tmc_of false rfl (by decide) (Nat.le_of_ble_eq_true rfl) ?_
  suffices HQ : ∀ Q0, Q0 = tRt cX6_goesDown none (fun rv h' => ∃ τ1 : List Nat, tPre τ τ1 ∧ WT N pk τ1 h' ∧ Fr PXt τ h h' ∧ rv = none ∧ UPS τ h h' a0 a1.toNatClampNeg 0) → TT l D mX6_goesDown Q0 2 8 0 [(0, .inr (some a0)), (1, .inl a1)] [] h from HQ _ rfl
  intro Q0 hQ
  have hf : Fr PXt τ h h := Fr.rf
  have hp : tPre τ τ := tPre.rf τ
  refine tt_aload_n (pc := 0) dX6_goesDown_0 (.head _) ?_
  refine tw_getr (pc := 1) dX6_goesDown_1 flX6_11 hw ta0 (by decide) rfl (fun f37 q38 ef37 gf37 tq38 => ?_)
  refine tt_iload_n (pc := 4) dX6_goesDown_4 (.tail _ (.head _)) ?_
  refine tw_ald (pc := 5) dX6_goesDown_5 hw tq38 rfl (by decide) (by omega) (by omega) (fun f39 q40 ef39 gf39 tq40 => ?_)
  refine tt_astore_n (pc := 6) dX6_goesDown_6 (by decide) ?_
  show TT _ _ _ _ _ _ _ [(2, .inr (some q40)), (0, .inr (some a0)), (1, .inl a1)] _ _
  refine tt_aload_n (pc := 7) dX6_goesDown_7 (.tail _ (.head _)) ?_
  refine tw_getr (pc := 8) dX6_goesDown_8 flX6_50 hw ta0 (by decide) rfl (fun f41 q42 ef41 gf41 tq42 => ?_)
  refine tt_aload_n (pc := 11) dX6_goesDown_11 (.head _) ?_
  refine tw_geti (pc := 12) dX6_goesDown_12 flX6_81 hw tq40 (by decide) rfl (fun f43 x44 ef43 gf43 lx44 ux44 => ?_)
  refine tw_ald (pc := 15) dX6_goesDown_15 hw tq42 rfl (by decide) (by omega) (by omega) (fun f45 q46 ef45 gf45 tq46 => ?_)
  refine tt_astore_n (pc := 16) dX6_goesDown_16 (by decide) ?_
  show TT _ _ _ _ _ _ _ [(3, .inr (some q46)), (2, .inr (some q40)), (0, .inr (some a0)), (1, .inl a1)] _ _
  refine tt_aload_n (pc := 17) dX6_goesDown_17 (.tail _ (.tail _ (.head _))) ?_
  refine tt_get (pc := 18) dX6_goesDown_18 flX6_50 ef41 gf41 ?_
  refine tt_aload_n (pc := 21) dX6_goesDown_21 (.tail _ (.head _)) ?_
  refine tw_geti (pc := 22) dX6_goesDown_22 flX6_84 hw tq40 (by decide) rfl (fun f47 x48 ef47 gf47 lx48 ux48 => ?_)
  refine tw_ald (pc := 25) dX6_goesDown_25 hw tq42 rfl (by decide) (by omega) (by omega) (fun f49 q50 ef49 gf49 tq50 => ?_)
  refine tt_astore (pc := 26) dX6_goesDown_26 (by decide) ?_
  show TT _ _ _ _ _ _ _ [(4, .inr (some q50)), (3, .inr (some q46)), (2, .inr (some q40)), (0, .inr (some a0)), (1, .inl a1)] _ _
  refine tt_aload_n (pc := 28) dX6_goesDown_28 (.tail _ (.tail _ (.head _))) ?_
  refine tw_iconst (pc := 29) dX6_goesDown_29 (by decide) (fun x51 ex51 => ?_)
  obtain ⟨f6, e6, l6, -⟩ := wt_obj hw tq40 (by decide)
  refine tt_put (pc := 30) dX6_goesDown_30 flX6_92 (Or.inl rfl) e6 (by rw [l6]; exact Nat.le_of_ble_eq_true rfl) (tfb (by omega) (by omega)) ?_
  have wh52 : WT N pk τ (h.set q40 (.inr (.inr (0, f6.set 1 (.inl x51))))) := wt_puto hw tq40 (by decide) e6 (k := 1) (ft := booI) rfl (show vty τ booI (.inl x51) from ⟨by omega, by omega⟩) (by decide)
  have fh52 : Fr PXt τ h (h.set q40 (.inr (.inr (0, f6.set 1 (.inl x51))))) := fr_puto hw.1 tq40 e6 (by decide)
  have oh52 : ∀ q9 : Nat, q9 ≠ q40 → (h.set q40 (.inr (.inr (0, f6.set 1 (.inl x51)))))[q9]? = h[q9]? := fun q9 hq9 => List.getElem?_set_ne (Ne.symm hq9)
  have sh52 : (h.set q40 (.inr (.inr (0, f6.set 1 (.inl x51)))))[q40]? = some (.inr (.inr (0, f6.set 1 (.inl x51)))) := List.getElem?_set_self (t_at e6)
  have gh52 : (f6.set 1 (.inl x51 : tV))[1]? = some (.inl x51) := List.getElem?_set_self (by rw [l6]; exact Nat.le_of_ble_eq_true rfl)
  have XQ0 : XQ h a0 a1.toNatClampNeg q40 := ⟨_, _, _, ef37, gf37, ef39, gf39⟩
  have tq0 := tq40
  obtain ⟨h52, eH⟩ : ∃ z, z = (h.set q40 (.inr (.inr (0, f6.set 1 (.inl x51))))) := ⟨_, rfl⟩
  rw [← eH] at wh52 fh52 oh52 sh52 ⊢
  have hfh52 := hf.tr (fh52.sub hp)
  have F2h52 : Fr PK01 τ h52 h52 := Fr.rf
  refine tt_aload_n (pc := 33) dX6_goesDown_33 (.tail _ (.tail _ (.tail _ (.head _)))) ?_
  refine tt_aload_n (pc := 34) dX6_goesDown_34 (.tail _ (.tail _ (.head _))) ?_
  refine tw_getr (pc := 35) dX6_goesDown_35 flX6_131 wh52 tq40 (by decide) rfl (fun f53 q54 ef53 gf53 tq54 => ?_)
  refine tw_iconst (pc := 38) dX6_goesDown_38 (by decide) (fun x55 ex55 => ?_)
  refine tw_ald (pc := 39) dX6_goesDown_39 wh52 tq54 rfl (by decide) (by omega) (by omega) (fun f56 q57 ef56 gf56 tq57 => ?_)
  refine tw_callV (kc := 2) (ks := 8) (mc := 0) (ms := 0) (as := [.inr (some q57)]) (st := []) (pc := 40) wh52 ta0 (by decide) dX6_goesDown_40 lkX6_239 imX6_cut seX6_cut rfl rfl (by decide) (by decide) (Nat.le_of_ble_eq_true rfl) (g_X6_cut hN2 hN8 hp0 hp64 wh52 a0 ta0 q57 tq57) (fun rv h58 qh58 => ?_)
  obtain ⟨wh58, fh58, rfl⟩ := qh58
  have hfh58 := hfh52.tr ((fh58.weak weak_PX_PXt).sub hp)
  have F2h58 := F2h52.tr ((fh58.weak (only01 rfl)).sub hp)
  show TT _ _ _ _ _ _ _ _ [] _
  refine tt_aload_n (pc := 43) dX6_goesDown_43 (.tail _ (.tail _ (.tail _ (.head _)))) ?_
  refine tt_aload_n (pc := 44) dX6_goesDown_44 (.tail _ (.tail _ (.head _))) ?_
  refine tw_getr (pc := 45) dX6_goesDown_45 flX6_131 wh58 tq40 (by decide) rfl (fun f59 q60 ef59 gf59 tq60 => ?_)
  refine tw_iconst (pc := 48) dX6_goesDown_48 (by decide) (fun x61 ex61 => ?_)
  refine tw_ald (pc := 49) dX6_goesDown_49 wh58 tq60 rfl (by decide) (by omega) (by omega) (fun f62 q63 ef62 gf62 tq63 => ?_)
  refine tw_callV (kc := 2) (ks := 8) (mc := 0) (ms := 0) (as := [.inr (some q63)]) (st := []) (pc := 50) wh58 ta0 (by decide) dX6_goesDown_50 lkX6_239 imX6_cut seX6_cut rfl rfl (by decide) (by decide) (Nat.le_of_ble_eq_true rfl) (g_X6_cut hN2 hN8 hp0 hp64 wh58 a0 ta0 q63 tq63) (fun rv h64 qh64 => ?_)
  obtain ⟨wh64, fh64, rfl⟩ := qh64
  have hfh64 := hfh58.tr ((fh64.weak weak_PX_PXt).sub hp)
  have F2h64 := F2h58.tr ((fh64.weak (only01 rfl)).sub hp)
  show TT _ _ _ _ _ _ _ _ [] _
  refine tt_aload_n (pc := 53) dX6_goesDown_53 (.tail _ (.tail _ (.tail _ (.head _)))) ?_
  refine tt_aload_n (pc := 54) dX6_goesDown_54 (.tail _ (.head _)) ?_
  refine tw_callV (kc := 1) (ks := 4) (mc := 1) (ms := 4) (as := [.inr (some q46)]) (st := []) (pc := 55) wh64 ta0 (by decide) dX6_goesDown_55 lkX6_110 imX6_tell seX6_tell rfl rfl (by decide) (by decide) (Nat.le_of_ble_eq_true rfl) (g_X6_tell hN2 hN8 hp0 hp64 wh64 a0 ta0 q46 tq46) (fun rv h65 qh65 => ?_)
  obtain ⟨Th65, ph65, wh65, fh65, rfl⟩ := qh65
  have hfh65 := hfh64.tr ((fh65.weak weak_PX_PXt).sub hp)
  have F2h65 := F2h64.tr ((fh65.weak (only01 rfl)).sub hp)
  have ta0 := tup ph65 ta0
  have tq40 := tup ph65 tq40
  have tq46 := tup ph65 tq46
  have tq50 := tup ph65 tq50
  have hp66 := hp.tr ph65
  show TT _ _ _ _ _ _ _ _ [] _
  refine tt_aload_n (pc := 58) dX6_goesDown_58 (.tail _ (.tail _ (.tail _ (.head _)))) ?_
  refine tt_aload (pc := 59) dX6_goesDown_59 (.head _) ?_
  refine tw_callV (kc := 0) (ks := 0) (mc := 1) (ms := 4) (as := [.inr (some q50)]) (st := []) (pc := 61) wh65 ta0 (by decide) dX6_goesDown_61 lkX6_110 imX6_tell seX6_tell rfl rfl (by decide) (by decide) (Nat.le_of_ble_eq_true rfl) (g_X6_tell hN2 hN8 hp0 hp64 wh65 a0 ta0 q50 tq50) (fun rv h67 qh67 => ?_)
  obtain ⟨Th67, ph67, wh67, fh67, rfl⟩ := qh67
  have hfh67 := hfh65.tr ((fh67.weak weak_PX_PXt).sub hp66)
  have F2h67 := F2h65.tr ((fh67.weak (only01 rfl)).sub hp66)
  have ta0 := tup ph67 ta0
  have tq40 := tup ph67 tq40
  have tq46 := tup ph67 tq46
  have tq50 := tup ph67 tq50
  have hp68 := hp66.tr ph67
  show TT _ _ _ _ _ _ _ _ [] _
  refine tt_aload_n (pc := 64) dX6_goesDown_64 (.tail _ (.head _)) ?_
  refine tt_iload_n (pc := 65) dX6_goesDown_65 (.tail _ (.tail _ (.tail _ (.tail _ (.head _))))) ?_
  refine tw_callV (kc := 0) (ks := 0) (mc := 0) (ms := 0) (as := [.inl a1]) (st := []) (pc := 66) wh67 tq46 (by decide) dX6_goesDown_66 lkX6_243 imX4_forgetLink seX4_forgetLink rfl rfl (by decide) (by decide) (Nat.le_of_ble_eq_true rfl) (g_X4_forgetLink hN2 hN8 hp0 hp64 wh67 q46 tq46 a1 (by omega) (by omega)) (fun rv h69 qh69 => ?_)
  obtain ⟨wh69, fh69, rfl⟩ := qh69
  have hfh69 := hfh67.tr ((fh69.weak weak_PX_PXt).sub hp68)
  have F2h69 := F2h67.tr ((fh69.weak (only01 rfl)).sub hp68)
  show TT _ _ _ _ _ _ _ _ [] _
  refine tt_aload (pc := 69) dX6_goesDown_69 (.head _) ?_
  refine tt_iload_n (pc := 71) dX6_goesDown_71 (.tail _ (.tail _ (.tail _ (.tail _ (.head _))))) ?_
  refine tw_callV (kc := 0) (ks := 0) (mc := 0) (ms := 0) (as := [.inl a1]) (st := []) (pc := 72) wh69 tq50 (by decide) dX6_goesDown_72 lkX6_243 imX4_forgetLink seX4_forgetLink rfl rfl (by decide) (by decide) (Nat.le_of_ble_eq_true rfl) (g_X4_forgetLink hN2 hN8 hp0 hp64 wh69 q50 tq50 a1 (by omega) (by omega)) (fun rv h70 qh70 => ?_)
  obtain ⟨wh70, fh70, rfl⟩ := qh70
  have hfh70 := hfh69.tr ((fh70.weak weak_PX_PXt).sub hp68)
  have F2h70 := F2h69.tr ((fh70.weak (only01 rfl)).sub hp68)
  show TT _ _ _ _ _ _ _ _ [] _
  refine tt_aload_n (pc := 75) dX6_goesDown_75 (.tail _ (.tail _ (.tail _ (.head _)))) ?_
  refine tt_aload_n (pc := 76) dX6_goesDown_76 (.tail _ (.head _)) ?_
  refine tw_callV (kc := 0) (ks := 0) (mc := 0) (ms := 0) (as := [.inr (some q46)]) (st := []) (pc := 77) wh70 ta0 (by decide) dX6_goesDown_77 lkX6_114 imX6_check seX6_check rfl rfl (by decide) (by decide) (Nat.le_of_ble_eq_true rfl) (g_X6_check hN2 hN8 hp0 hp64 wh70 a0 ta0 q46 tq46) (fun rv h71 qh71 => ?_)
  obtain ⟨wh71, fh71, rfl⟩ := qh71
  have hfh71 := hfh70.tr ((fh71.weak weak_PX_PXt).sub hp68)
  have F2h71 := F2h70.tr ((fh71.weak (only01 rfl)).sub hp68)
  show TT _ _ _ _ _ _ _ _ [] _
  refine tt_aload_n (pc := 80) dX6_goesDown_80 (.tail _ (.tail _ (.tail _ (.head _)))) ?_
  refine tt_aload (pc := 81) dX6_goesDown_81 (.head _) ?_
  refine tw_callV (kc := 0) (ks := 0) (mc := 0) (ms := 0) (as := [.inr (some q50)]) (st := []) (pc := 83) wh71 ta0 (by decide) dX6_goesDown_83 lkX6_114 imX6_check seX6_check rfl rfl (by decide) (by decide) (Nat.le_of_ble_eq_true rfl) (g_X6_check hN2 hN8 hp0 hp64 wh71 a0 ta0 q50 tq50) (fun rv h72 qh72 => ?_)
  obtain ⟨wh72, fh72, rfl⟩ := qh72
  have hfh72 := hfh71.tr ((fh72.weak weak_PX_PXt).sub hp68)
  have F2h72 := F2h71.tr ((fh72.weak (only01 rfl)).sub hp68)
  show TT _ _ _ _ _ _ _ _ [] _
  refine tt_stop ?_
  rw [hQ]
  exact Or.inl ⟨dX6_goesDown_86, rfl, rfl, _, hp68, wh72, hfh72, rfl, ups_of XQ0 tq0 oh52 sh52 gh52 (by omega) wh52 F2h72⟩
set_option maxHeartbeats 4000000 in
theorem h_X6_turnE {l : Launch} {D : va_G} {N : Nat} {pk : Int} {τ : List Nat} (hN2 : 2 ≤ N) (hN8 : N ≤ 8) (hp0 : 0 ≤ pk) (hp64 : pk ≤ 64) {h : List tC} (hw : WT N pk τ h) (a0 : Nat) (ta0 : τ[a0]? = some 6) (a1 : Int32) (a2 : Int32) (la2 : 0 ≤ a2.toInt) (ua2 : a2.toInt ≤ 1) : TT l D mX6_turn (fun pc' loc' st' h' => tRt cX6_turn none (fun rv h' => ∃ τ1 : List Nat, tPre τ τ1 ∧ WT N pk τ1 h' ∧ Fr PXt τ h h' ∧ rv = none ∧ (0 ≤ a1.toInt ∧ a1.toInt ≤ 11) ∧ (∃ x : Int32, XL h a0 a1.toNatClampNeg x ∧ x.toInt ≠ 0) ∧ (∃ x : Int, XU h a0 a1.toNatClampNeg x ∧ x ≠ a2.toInt) ∧ UPS τ h h' a0 a1.toNatClampNeg a2.toInt) pc' loc' st' h' ∨ (pc' = 7 ∧ st' = [] ∧ h' = h ∧ ¬ (0 ≤ a1.toInt ∧ a1.toInt ≤ 11)) ∨ (pc' = 42 ∧ st' = [] ∧ h' = h ∧ (0 ≤ a1.toInt ∧ a1.toInt ≤ 11) ∧ (XL h a0 a1.toNatClampNeg 0 ∨ XU h a0 a1.toNatClampNeg a2.toInt))) 2 8 0 [(0, .inr (some a0)), (1, .inl a1), (2, .inl a2)] [] h := by
  suffices HQ : ∀ Q0, Q0 = (fun pc' loc' st' h' => tRt cX6_turn none (fun rv h' => ∃ τ1 : List Nat, tPre τ τ1 ∧ WT N pk τ1 h' ∧ Fr PXt τ h h' ∧ rv = none ∧ (0 ≤ a1.toInt ∧ a1.toInt ≤ 11) ∧ (∃ x : Int32, XL h a0 a1.toNatClampNeg x ∧ x.toInt ≠ 0) ∧ (∃ x : Int, XU h a0 a1.toNatClampNeg x ∧ x ≠ a2.toInt) ∧ UPS τ h h' a0 a1.toNatClampNeg a2.toInt) pc' loc' st' h' ∨ (pc' = 7 ∧ st' = [] ∧ h' = h ∧ ¬ (0 ≤ a1.toInt ∧ a1.toInt ≤ 11)) ∨ (pc' = 42 ∧ st' = [] ∧ h' = h ∧ (0 ≤ a1.toInt ∧ a1.toInt ≤ 11) ∧ (XL h a0 a1.toNatClampNeg 0 ∨ XU h a0 a1.toNatClampNeg a2.toInt))) → TT l D mX6_turn Q0 2 8 0 [(0, .inr (some a0)), (1, .inl a1), (2, .inl a2)] [] h from HQ _ rfl
  intro Q0 hQ
  have hf : Fr PXt τ h h := Fr.rf
  have hp : tPre τ τ := tPre.rf τ
  have ba1 := i_ty a1
  refine tt_iload_n (pc := 0) dX6_turn_0 (.tail _ (.head _)) ?_
  refine tt_callS (kc := 2) (ks := 8) (mc := 0) (ms := 0) (as := [.inl a1]) (st := []) (pc := 1) dX6_turn_1 lkX6_58 smX6_isLink rfl (by decide) (by decide) (Nat.le_of_ble_eq_true rfl) (g_X6_isLink hN2 hN8 hp0 hp64 hw a1) (fun rv h21 qh21 => ?_)
  obtain ⟨rfl, x22, rfl, lx22, ux22, Gx22, Zx22⟩ := qh21
  show TT _ _ _ _ _ _ _ _ [.inl x22] _
  refine tw_if (tgt := 17) (pc := 4) dX6_turn_4 (by decide) (fun (c25 : x22.toInt ≠ 0) => ?_) (fun (c25 : ¬ (x22.toInt ≠ 0)) => ?_)
  · skip
    obtain ⟨b23, b24⟩ := Gx22 (by omega)
    refine tt_aload_n (pc := 17) dX6_turn_17 (.head _) ?_
    refine tw_getr (pc := 18) dX6_turn_18 flX6_11 hw ta0 (by decide) rfl (fun f26 q27 ef26 gf26 tq27 => ?_)
    refine tt_iload_n (pc := 21) dX6_turn_21 (.tail _ (.head _)) ?_
    refine tw_ald (pc := 22) dX6_turn_22 hw tq27 rfl (by decide) (by omega) (by omega) (fun f28 q29 ef28 gf28 tq29 => ?_)
    refine tw_geti (pc := 23) dX6_turn_23 flX6_72 hw tq29 (by decide) rfl (fun f30 x31 ef30 gf30 lx31 ux31 => ?_)
    refine tw_if (tgt := 42) (pc := 26) dX6_turn_26 (by decide) (fun (c32 : x31.toInt = 0) => ?_) (fun (c32 : ¬ (x31.toInt = 0)) => ?_)
    · skip
      refine tt_stop ?_
      rw [hQ]
      exact Or.inr (Or.inr ⟨rfl, rfl, rfl, ⟨by omega, by omega⟩, (by first | exact Or.inl ⟨q29, _, ⟨_, _, _, ef26, gf26, ef28, gf28⟩, ef30, (by have z9 : x31 = 0 := Int32.toInt_inj.mp (by show x31.toInt = 0; omega); rw [← z9]; exact gf30)⟩)⟩)
    · skip
      refine tt_aload_n (pc := 29) dX6_turn_29 (.head _) ?_
      refine tt_get (pc := 30) dX6_turn_30 flX6_11 ef26 gf26 ?_
      refine tt_iload_n (pc := 33) dX6_turn_33 (.tail _ (.head _)) ?_
      refine tt_aald (pc := 34) dX6_turn_34 ef28 (by decide) (i_nn (by omega)) gf28 ?_
      refine tw_geti (pc := 35) dX6_turn_35 flX6_92 hw tq29 (by decide) rfl (fun f33 x34 ef33 gf33 lx34 ux34 => ?_)
      refine tt_iload_n (pc := 38) dX6_turn_38 (.tail _ (.tail _ (.head _))) ?_
      refine tw_icmp (tgt := 52) (pc := 39) dX6_turn_39 (by decide) (fun (c35 : x34.toInt ≠ a2.toInt) => ?_) (fun (c35 : ¬ (x34.toInt ≠ a2.toInt)) => ?_)
      · skip
        refine tt_iload_n (pc := 52) dX6_turn_52 (.tail _ (.tail _ (.head _))) ?_
        refine tw_if (tgt := 64) (pc := 53) dX6_turn_53 (by decide) (fun (c36 : a2.toInt = 0) => ?_) (fun (c36 : ¬ (a2.toInt = 0)) => ?_)
        · skip
          refine tt_aload_n (pc := 64) dX6_turn_64 (.head _) ?_
          refine tt_iload_n (pc := 65) dX6_turn_65 (.tail _ (.head _)) ?_
          refine tw_callV (kc := 0) (ks := 0) (mc := 2) (ms := 8) (as := [.inl a1]) (st := []) (pc := 66) hw ta0 (by decide) dX6_turn_66 lkX6_100 imX6_goesDown seX6_goesDown rfl rfl (by decide) (by decide) (Nat.le_of_ble_eq_true rfl) (g_X6_goesDownE hN2 hN8 hp0 hp64 hw a0 ta0 a1 (by omega) (by omega)) (fun rv h37 qh37 => ?_)
          obtain ⟨Th37, ph37, wh37, fh37, rfl, Uh37⟩ := qh37
          have hfh37 := hf.tr (fh37.sub hp)
          have ta0 := tup ph37 ta0
          have hp38 := hp.tr ph37
          show TT _ _ _ _ _ _ _ _ [] _
          refine tt_stop ?_
          rw [hQ]
          exact Or.inl (Or.inl ⟨dX6_turn_69, rfl, rfl, _, hp38, wh37, hfh37, rfl, ⟨by omega, by omega⟩, ⟨x31, ⟨q29, _, ⟨_, _, _, ef26, gf26, ef28, gf28⟩, ef30, gf30⟩, by omega⟩, ⟨x34.toInt, ⟨q29, ⟨_, _, _, ef26, gf26, ef28, gf28⟩, _, x34, ef33, gf33, rfl⟩, by omega⟩, (by first | (have z9 : a2.toInt = 1 := (by omega); rw [z9]; exact Uh37) | (have z9 : a2.toInt = 0 := (by omega); rw [z9]; exact Uh37))⟩)
        · skip
          refine tt_aload_n (pc := 56) dX6_turn_56 (.head _) ?_
          refine tt_iload_n (pc := 57) dX6_turn_57 (.tail _ (.head _)) ?_
          refine tw_callV (kc := 0) (ks := 0) (mc := 2) (ms := 8) (as := [.inl a1]) (st := []) (pc := 58) hw ta0 (by decide) dX6_turn_58 lkX6_97 imX6_comesUp seX6_comesUp rfl rfl (by decide) (by decide) (Nat.le_of_ble_eq_true rfl) (g_X6_comesUpE hN2 hN8 hp0 hp64 hw a0 ta0 a1 (by omega) (by omega)) (fun rv h39 qh39 => ?_)
          obtain ⟨Th39, ph39, wh39, fh39, rfl, Uh39⟩ := qh39
          have hfh39 := hf.tr (fh39.sub hp)
          have ta0 := tup ph39 ta0
          have hp40 := hp.tr ph39
          show TT _ _ _ _ _ _ _ _ [] _
          refine tt_goto (tgt := 69) (pc := 61) dX6_turn_61 (by decide) ?_
          refine tt_stop ?_
          rw [hQ]
          exact Or.inl (Or.inl ⟨dX6_turn_69, rfl, rfl, _, hp40, wh39, hfh39, rfl, ⟨by omega, by omega⟩, ⟨x31, ⟨q29, _, ⟨_, _, _, ef26, gf26, ef28, gf28⟩, ef30, gf30⟩, by omega⟩, ⟨x34.toInt, ⟨q29, ⟨_, _, _, ef26, gf26, ef28, gf28⟩, _, x34, ef33, gf33, rfl⟩, by omega⟩, (by first | (have z9 : a2.toInt = 1 := (by omega); rw [z9]; exact Uh39) | (have z9 : a2.toInt = 0 := (by omega); rw [z9]; exact Uh39))⟩)
      · skip
        refine tt_stop ?_
        rw [hQ]
        exact Or.inr (Or.inr ⟨rfl, rfl, rfl, ⟨by omega, by omega⟩, (by first | exact Or.inl ⟨q29, _, ⟨_, _, _, ef26, gf26, ef28, gf28⟩, ef30, (by have z9 : x31 = 0 := Int32.toInt_inj.mp (by show x31.toInt = 0; omega); rw [← z9]; exact gf30)⟩ | exact Or.inr ⟨q29, ⟨_, _, _, ef26, gf26, ef28, gf28⟩, _, x34, ef33, gf33, by omega⟩)⟩)
  · skip
    refine tt_stop ?_
    rw [hQ]
    exact Or.inr (Or.inl ⟨rfl, rfl, rfl, by omega⟩)
set_option maxHeartbeats 4000000 in
theorem h_X6_attachE {l : Launch} {D : va_G} {N : Nat} {pk : Int} {τ : List Nat} (hN2 : 2 ≤ N) (hN8 : N ≤ 8) (hp0 : 0 ≤ pk) (hp64 : pk ≤ 64) {h : List tC} (hw : WT N pk τ h) (a0 : Nat) (ta0 : τ[a0]? = some 6) (a1 : Int32) (a2 : Int32) : TT l D mX6_attach (fun pc' loc' st' h' => tRt cX6_attach none (fun rv h' => ∃ τ1 : List Nat, tPre τ τ1 ∧ WT N pk τ1 h' ∧ Fr PXa τ h h' ∧ rv = none ∧ (0 ≤ a1.toInt ∧ a1.toInt ≤ 7 ∧ -1 ≤ a2.toInt ∧ a2.toInt ≤ (N : Int) - 1) ∧ ∃ (k : Nat) (xs : List Int32) (v : Int32), τ[k]? = some 10 ∧ h[k]? = some (.inl (0, xs)) ∧ xs[a1.toNatClampNeg]? = some v ∧ v.toInt ≠ a2.toInt ∧ h'[k]? = some (.inl (0, xs.set a1.toNatClampNeg a2))) pc' loc' st' h' ∨ (pc' = 20 ∧ st' = [] ∧ h' = h ∧ ¬ (0 ≤ a1.toInt ∧ a1.toInt ≤ 7 ∧ -1 ≤ a2.toInt ∧ a2.toInt ≤ (N : Int) - 1)) ∨ (pc' = 42 ∧ st' = [] ∧ h' = h ∧ (0 ≤ a1.toInt ∧ a1.toInt ≤ 7 ∧ -1 ≤ a2.toInt ∧ a2.toInt ≤ (N : Int) - 1) ∧ ∃ v : Int32, ARV τ h 10 a1.toNatClampNeg v ∧ v.toInt = a2.toInt)) 2 8 0 [(0, .inr (some a0)), (1, .inl a1), (2, .inl a2)] [] h := by
  suffices HQ : ∀ Q0, Q0 = (fun pc' loc' st' h' => tRt cX6_attach none (fun rv h' => ∃ τ1 : List Nat, tPre τ τ1 ∧ WT N pk τ1 h' ∧ Fr PXa τ h h' ∧ rv = none ∧ (0 ≤ a1.toInt ∧ a1.toInt ≤ 7 ∧ -1 ≤ a2.toInt ∧ a2.toInt ≤ (N : Int) - 1) ∧ ∃ (k : Nat) (xs : List Int32) (v : Int32), τ[k]? = some 10 ∧ h[k]? = some (.inl (0, xs)) ∧ xs[a1.toNatClampNeg]? = some v ∧ v.toInt ≠ a2.toInt ∧ h'[k]? = some (.inl (0, xs.set a1.toNatClampNeg a2))) pc' loc' st' h' ∨ (pc' = 20 ∧ st' = [] ∧ h' = h ∧ ¬ (0 ≤ a1.toInt ∧ a1.toInt ≤ 7 ∧ -1 ≤ a2.toInt ∧ a2.toInt ≤ (N : Int) - 1)) ∨ (pc' = 42 ∧ st' = [] ∧ h' = h ∧ (0 ≤ a1.toInt ∧ a1.toInt ≤ 7 ∧ -1 ≤ a2.toInt ∧ a2.toInt ≤ (N : Int) - 1) ∧ ∃ v : Int32, ARV τ h 10 a1.toNatClampNeg v ∧ v.toInt = a2.toInt)) → TT l D mX6_attach Q0 2 8 0 [(0, .inr (some a0)), (1, .inl a1), (2, .inl a2)] [] h from HQ _ rfl
  intro Q0 hQ
  have hf : Fr PXa τ h h := Fr.rf
  have hp : tPre τ τ := tPre.rf τ
  have ba1 := i_ty a1
  have ba2 := i_ty a2
  refine tt_iload_n (pc := 0) dX6_attach_0 (.tail _ (.head _)) ?_
  refine tt_callS (kc := 2) (ks := 8) (mc := 0) (ms := 0) (as := [.inl a1]) (st := []) (pc := 1) dX6_attach_1 lkX6_103 smX6_isPrefix rfl (by decide) (by decide) (Nat.le_of_ble_eq_true rfl) (g_X6_isPrefix hN2 hN8 hp0 hp64 hw a1) (fun rv h87 qh87 => ?_)
  obtain ⟨rfl, x88, rfl, lx88, ux88, Gx88, Zx88⟩ := qh87
  show TT _ _ _ _ _ _ _ _ [.inl x88] _
  refine tw_if (tgt := 20) (pc := 4) dX6_attach_4 (by decide) (fun (c91 : x88.toInt = 0) => ?_) (fun (c91 : ¬ (x88.toInt = 0)) => ?_)
  · skip
    refine tt_stop ?_
    rw [hQ]
    exact Or.inr (Or.inl ⟨rfl, rfl, rfl, by omega⟩)
  · skip
    obtain ⟨b89, b90⟩ := Gx88 (by omega)
    refine tt_iload_n (pc := 7) dX6_attach_7 (.tail _ (.tail _ (.head _))) ?_
    refine tw_iconst (pc := 8) dX6_attach_8 (by decide) (fun x92 ex92 => ?_)
    refine tw_icmp (tgt := 30) (pc := 9) dX6_attach_9 (by decide) (fun (c93 : a2.toInt = x92.toInt) => ?_) (fun (c93 : ¬ (a2.toInt = x92.toInt)) => ?_)
    · skip
      refine tt_aload_n (pc := 30) dX6_attach_30 (.head _) ?_
      refine tw_getr (pc := 31) dX6_attach_31 flX6_15 hw ta0 (by decide) rfl (fun f94 q95 ef94 gf94 tq95 => ?_)
      refine tt_iload_n (pc := 34) dX6_attach_34 (.tail _ (.head _)) ?_
      refine tw_ild (pc := 35) dX6_attach_35 hw tq95 rfl (by omega) (by omega) (fun f97 x96 ef97 gf97 lx96 ux96 => ?_)
      refine tt_istore_n (pc := 36) dX6_attach_36 (by decide) ?_
      show TT _ _ _ _ _ _ _ [(3, .inl x96), (0, .inr (some a0)), (1, .inl a1), (2, .inl a2)] _ _
      refine tt_iload_n (pc := 37) dX6_attach_37 (.head _) ?_
      refine tt_iload_n (pc := 38) dX6_attach_38 (.tail _ (.tail _ (.tail _ (.head _)))) ?_
      refine tw_icmp (tgt := 52) (pc := 39) dX6_attach_39 (by decide) (fun (c98 : x96.toInt ≠ a2.toInt) => ?_) (fun (c98 : ¬ (x96.toInt ≠ a2.toInt)) => ?_)
      · skip
        refine tt_aload_n (pc := 52) dX6_attach_52 (.tail _ (.head _)) ?_
        refine tt_get (pc := 53) dX6_attach_53 flX6_15 ef94 gf94 ?_
        refine tt_iload_n (pc := 56) dX6_attach_56 (.tail _ (.tail _ (.head _))) ?_
        refine tt_iload_n (pc := 57) dX6_attach_57 (.tail _ (.tail _ (.tail _ (.head _)))) ?_
        refine tw_ist (P := (PEX 10)) (pc := 58) dX6_attach_58 hw tq95 rfl (by omega) (by omega) (by omega) (by omega) (by decide) (fun f99 h100 eh100 gh100 kh100 wh100 fh100 => ?_)
        have hfh100 := hf.tr ((fh100.weak (weak_PEX (fun _ => rfl))).sub hp)
        obtain ⟨f101, E102, G103⟩ := fr_fld fh100 ta0 (by decide) ef94 gf94
        have G10 : h100[q95]? = some (.inl (0, f97.set a1.toNatClampNeg a2)) := by
          have z1 := eh100
          rw [ef97] at z1
          cases z1
          exact gh100
        have tk0 := tq95
        have F2h100 : Fr PK10 τ h100 h100 := Fr.rf
        refine tt_iload_n (pc := 59) dX6_attach_59 (.head _) ?_
        refine tw_iconst (pc := 60) dX6_attach_60 (by decide) (fun x104 ex104 => ?_)
        refine tw_icmp (tgt := 84) (pc := 61) dX6_attach_61 (by decide) (fun (c105 : x96.toInt = x104.toInt) => ?_) (fun (c105 : ¬ (x96.toInt = x104.toInt)) => ?_)
        · skip
          exfalso
          omega
        · skip
          refine tt_aload_n (pc := 64) dX6_attach_64 (.tail _ (.head _)) ?_
          refine tt_aload_n (pc := 65) dX6_attach_65 (.tail _ (.head _)) ?_
          refine tw_getr (pc := 66) dX6_attach_66 flX6_50 wh100 ta0 (by decide) rfl (fun f106 q107 ef106 gf106 tq107 => ?_)
          refine tt_iload_n (pc := 69) dX6_attach_69 (.head _) ?_
          refine tw_ald (pc := 70) dX6_attach_70 wh100 tq107 rfl (by decide) (by omega) (by omega) (fun f108 q109 ef108 gf108 tq109 => ?_)
          refine tw_callV (kc := 1) (ks := 4) (mc := 1) (ms := 4) (as := [.inr (some q109)]) (st := []) (pc := 71) wh100 ta0 (by decide) dX6_attach_71 lkX6_110 imX6_tell seX6_tell rfl rfl (by decide) (by decide) (Nat.le_of_ble_eq_true rfl) (g_X6_tell hN2 hN8 hp0 hp64 wh100 a0 ta0 q109 tq109) (fun rv h110 qh110 => ?_)
          obtain ⟨Th110, ph110, wh110, fh110, rfl⟩ := qh110
          have hfh110 := hfh100.tr ((fh110.weak weak_PX_PXa).sub hp)
          have F2h110 := F2h100.tr ((fh110.weak (only10 (fun _ => rfl))).sub hp)
          have ta0 := tup ph110 ta0
          have hp111 := hp.tr ph110
          show TT _ _ _ _ _ _ _ _ [] _
          refine tt_aload_n (pc := 74) dX6_attach_74 (.tail _ (.head _)) ?_
          refine tt_aload_n (pc := 75) dX6_attach_75 (.tail _ (.head _)) ?_
          refine tw_getr (pc := 76) dX6_attach_76 flX6_50 wh110 ta0 (by decide) rfl (fun f112 q113 ef112 gf112 tq113 => ?_)
          refine tt_iload_n (pc := 79) dX6_attach_79 (.head _) ?_
          refine tw_ald (pc := 80) dX6_attach_80 wh110 tq113 rfl (by decide) (by omega) (by omega) (fun f114 q115 ef114 gf114 tq115 => ?_)
          refine tw_callV (kc := 1) (ks := 4) (mc := 0) (ms := 0) (as := [.inr (some q115)]) (st := []) (pc := 81) wh110 ta0 (by decide) dX6_attach_81 lkX6_114 imX6_check seX6_check rfl rfl (by decide) (by decide) (Nat.le_of_ble_eq_true rfl) (g_X6_check hN2 hN8 hp0 hp64 wh110 a0 ta0 q115 tq115) (fun rv h116 qh116 => ?_)
          obtain ⟨wh116, fh116, rfl⟩ := qh116
          have hfh116 := hfh110.tr ((fh116.weak weak_PX_PXa).sub hp111)
          have F2h116 := F2h110.tr ((fh116.weak (only10 (fun _ => rfl))).sub hp111)
          show TT _ _ _ _ _ _ _ _ [] _
          refine tt_iload_n (pc := 84) dX6_attach_84 (.tail _ (.tail _ (.tail _ (.head _)))) ?_
          refine tw_iconst (pc := 85) dX6_attach_85 (by decide) (fun x117 ex117 => ?_)
          refine tw_icmp (tgt := 109) (pc := 86) dX6_attach_86 (by decide) (fun (c118 : a2.toInt = x117.toInt) => ?_) (fun (c118 : ¬ (a2.toInt = x117.toInt)) => ?_)
          · skip
            refine tt_stop ?_
            rw [hQ]
            exact Or.inl (Or.inl ⟨dX6_attach_109, rfl, rfl, _, hp111, wh116, hfh116, rfl, ⟨by omega, by omega, by omega, by omega⟩, q95, f97, x96, tk0, ef97, gf97, by omega, fr_arrI F2h116 tk0 rfl G10⟩)
          · skip
            exfalso
            omega
      · skip
        refine tt_stop ?_
        rw [hQ]
        exact Or.inr (Or.inr ⟨rfl, rfl, rfl, ⟨by omega, by omega, by omega, by omega⟩, x96, ⟨q95, _, _, tq95, ef97, gf97⟩, by omega⟩)
    · skip
      refine tt_aload_n (pc := 12) dX6_attach_12 (.head _) ?_
      refine tt_iload_n (pc := 13) dX6_attach_13 (.tail _ (.tail _ (.head _))) ?_
      refine tw_callV (kc := 2) (ks := 8) (mc := 0) (ms := 0) (as := [.inl a2]) (st := []) (pc := 14) hw ta0 (by decide) dX6_attach_14 lkX6_62 imX6_isRouter seX6_isRouter rfl rfl (by decide) (by decide) (Nat.le_of_ble_eq_true rfl) (g_X6_isRouter hN2 hN8 hp0 hp64 hw a0 ta0 a2) (fun rv h119 qh119 => ?_)
      obtain ⟨rfl, x120, rfl, lx120, ux120, Gx120, Zx120⟩ := qh119
      show TT _ _ _ _ _ _ _ _ [.inl x120] _
      refine tw_if (tgt := 30) (pc := 17) dX6_attach_17 (by decide) (fun (c123 : x120.toInt ≠ 0) => ?_) (fun (c123 : ¬ (x120.toInt ≠ 0)) => ?_)
      · skip
        obtain ⟨b121, b122⟩ := Gx120 (by omega)
        refine tt_aload_n (pc := 30) dX6_attach_30 (.head _) ?_
        refine tw_getr (pc := 31) dX6_attach_31 flX6_15 hw ta0 (by decide) rfl (fun f124 q125 ef124 gf124 tq125 => ?_)
        refine tt_iload_n (pc := 34) dX6_attach_34 (.tail _ (.head _)) ?_
        refine tw_ild (pc := 35) dX6_attach_35 hw tq125 rfl (by omega) (by omega) (fun f127 x126 ef127 gf127 lx126 ux126 => ?_)
        refine tt_istore_n (pc := 36) dX6_attach_36 (by decide) ?_
        show TT _ _ _ _ _ _ _ [(3, .inl x126), (0, .inr (some a0)), (1, .inl a1), (2, .inl a2)] _ _
        refine tt_iload_n (pc := 37) dX6_attach_37 (.head _) ?_
        refine tt_iload_n (pc := 38) dX6_attach_38 (.tail _ (.tail _ (.tail _ (.head _)))) ?_
        refine tw_icmp (tgt := 52) (pc := 39) dX6_attach_39 (by decide) (fun (c128 : x126.toInt ≠ a2.toInt) => ?_) (fun (c128 : ¬ (x126.toInt ≠ a2.toInt)) => ?_)
        · skip
          refine tt_aload_n (pc := 52) dX6_attach_52 (.tail _ (.head _)) ?_
          refine tt_get (pc := 53) dX6_attach_53 flX6_15 ef124 gf124 ?_
          refine tt_iload_n (pc := 56) dX6_attach_56 (.tail _ (.tail _ (.head _))) ?_
          refine tt_iload_n (pc := 57) dX6_attach_57 (.tail _ (.tail _ (.tail _ (.head _)))) ?_
          refine tw_ist (P := (PEX 10)) (pc := 58) dX6_attach_58 hw tq125 rfl (by omega) (by omega) (by omega) (by omega) (by decide) (fun f129 h130 eh130 gh130 kh130 wh130 fh130 => ?_)
          have hfh130 := hf.tr ((fh130.weak (weak_PEX (fun _ => rfl))).sub hp)
          obtain ⟨f131, E132, G133⟩ := fr_fld fh130 ta0 (by decide) ef124 gf124
          have G10 : h130[q125]? = some (.inl (0, f127.set a1.toNatClampNeg a2)) := by
            have z1 := eh130
            rw [ef127] at z1
            cases z1
            exact gh130
          have tk0 := tq125
          have F2h130 : Fr PK10 τ h130 h130 := Fr.rf
          refine tt_iload_n (pc := 59) dX6_attach_59 (.head _) ?_
          refine tw_iconst (pc := 60) dX6_attach_60 (by decide) (fun x134 ex134 => ?_)
          refine tw_icmp (tgt := 84) (pc := 61) dX6_attach_61 (by decide) (fun (c135 : x126.toInt = x134.toInt) => ?_) (fun (c135 : ¬ (x126.toInt = x134.toInt)) => ?_)
          · skip
            refine tt_iload_n (pc := 84) dX6_attach_84 (.tail _ (.tail _ (.tail _ (.head _)))) ?_
            refine tw_iconst (pc := 85) dX6_attach_85 (by decide) (fun x136 ex136 => ?_)
            refine tw_icmp (tgt := 109) (pc := 86) dX6_attach_86 (by decide) (fun (c137 : a2.toInt = x136.toInt) => ?_) (fun (c137 : ¬ (a2.toInt = x136.toInt)) => ?_)
            · skip
              exfalso
              omega
            · skip
              refine tt_aload_n (pc := 89) dX6_attach_89 (.tail _ (.head _)) ?_
              refine tt_aload_n (pc := 90) dX6_attach_90 (.tail _ (.head _)) ?_
              refine tw_getr (pc := 91) dX6_attach_91 flX6_50 wh130 ta0 (by decide) rfl (fun f138 q139 ef138 gf138 tq139 => ?_)
              refine tt_iload_n (pc := 94) dX6_attach_94 (.tail _ (.tail _ (.tail _ (.head _)))) ?_
              refine tw_ald (pc := 95) dX6_attach_95 wh130 tq139 rfl (by decide) (by omega) (by omega) (fun f140 q141 ef140 gf140 tq141 => ?_)
              refine tw_callV (kc := 1) (ks := 4) (mc := 1) (ms := 4) (as := [.inr (some q141)]) (st := []) (pc := 96) wh130 ta0 (by decide) dX6_attach_96 lkX6_110 imX6_tell seX6_tell rfl rfl (by decide) (by decide) (Nat.le_of_ble_eq_true rfl) (g_X6_tell hN2 hN8 hp0 hp64 wh130 a0 ta0 q141 tq141) (fun rv h142 qh142 => ?_)
              obtain ⟨Th142, ph142, wh142, fh142, rfl⟩ := qh142
              have hfh142 := hfh130.tr ((fh142.weak weak_PX_PXa).sub hp)
              have F2h142 := F2h130.tr ((fh142.weak (only10 (fun _ => rfl))).sub hp)
              have ta0 := tup ph142 ta0
              have hp143 := hp.tr ph142
              show TT _ _ _ _ _ _ _ _ [] _
              refine tt_aload_n (pc := 99) dX6_attach_99 (.tail _ (.head _)) ?_
              refine tt_aload_n (pc := 100) dX6_attach_100 (.tail _ (.head _)) ?_
              refine tw_getr (pc := 101) dX6_attach_101 flX6_50 wh142 ta0 (by decide) rfl (fun f144 q145 ef144 gf144 tq145 => ?_)
              refine tt_iload_n (pc := 104) dX6_attach_104 (.tail _ (.tail _ (.tail _ (.head _)))) ?_
              refine tw_ald (pc := 105) dX6_attach_105 wh142 tq145 rfl (by decide) (by omega) (by omega) (fun f146 q147 ef146 gf146 tq147 => ?_)
              refine tw_callV (kc := 1) (ks := 4) (mc := 0) (ms := 0) (as := [.inr (some q147)]) (st := []) (pc := 106) wh142 ta0 (by decide) dX6_attach_106 lkX6_114 imX6_check seX6_check rfl rfl (by decide) (by decide) (Nat.le_of_ble_eq_true rfl) (g_X6_check hN2 hN8 hp0 hp64 wh142 a0 ta0 q147 tq147) (fun rv h148 qh148 => ?_)
              obtain ⟨wh148, fh148, rfl⟩ := qh148
              have hfh148 := hfh142.tr ((fh148.weak weak_PX_PXa).sub hp143)
              have F2h148 := F2h142.tr ((fh148.weak (only10 (fun _ => rfl))).sub hp143)
              show TT _ _ _ _ _ _ _ _ [] _
              refine tt_stop ?_
              rw [hQ]
              exact Or.inl (Or.inl ⟨dX6_attach_109, rfl, rfl, _, hp143, wh148, hfh148, rfl, ⟨by omega, by omega, by omega, by omega⟩, q125, f127, x126, tk0, ef127, gf127, by omega, fr_arrI F2h148 tk0 rfl G10⟩)
          · skip
            refine tt_aload_n (pc := 64) dX6_attach_64 (.tail _ (.head _)) ?_
            refine tt_aload_n (pc := 65) dX6_attach_65 (.tail _ (.head _)) ?_
            refine tw_getr (pc := 66) dX6_attach_66 flX6_50 wh130 ta0 (by decide) rfl (fun f149 q150 ef149 gf149 tq150 => ?_)
            refine tt_iload_n (pc := 69) dX6_attach_69 (.head _) ?_
            refine tw_ald (pc := 70) dX6_attach_70 wh130 tq150 rfl (by decide) (by omega) (by omega) (fun f151 q152 ef151 gf151 tq152 => ?_)
            refine tw_callV (kc := 1) (ks := 4) (mc := 1) (ms := 4) (as := [.inr (some q152)]) (st := []) (pc := 71) wh130 ta0 (by decide) dX6_attach_71 lkX6_110 imX6_tell seX6_tell rfl rfl (by decide) (by decide) (Nat.le_of_ble_eq_true rfl) (g_X6_tell hN2 hN8 hp0 hp64 wh130 a0 ta0 q152 tq152) (fun rv h153 qh153 => ?_)
            obtain ⟨Th153, ph153, wh153, fh153, rfl⟩ := qh153
            have hfh153 := hfh130.tr ((fh153.weak weak_PX_PXa).sub hp)
            have F2h153 := F2h130.tr ((fh153.weak (only10 (fun _ => rfl))).sub hp)
            have ta0 := tup ph153 ta0
            have hp154 := hp.tr ph153
            show TT _ _ _ _ _ _ _ _ [] _
            refine tt_aload_n (pc := 74) dX6_attach_74 (.tail _ (.head _)) ?_
            refine tt_aload_n (pc := 75) dX6_attach_75 (.tail _ (.head _)) ?_
            refine tw_getr (pc := 76) dX6_attach_76 flX6_50 wh153 ta0 (by decide) rfl (fun f155 q156 ef155 gf155 tq156 => ?_)
            refine tt_iload_n (pc := 79) dX6_attach_79 (.head _) ?_
            refine tw_ald (pc := 80) dX6_attach_80 wh153 tq156 rfl (by decide) (by omega) (by omega) (fun f157 q158 ef157 gf157 tq158 => ?_)
            refine tw_callV (kc := 1) (ks := 4) (mc := 0) (ms := 0) (as := [.inr (some q158)]) (st := []) (pc := 81) wh153 ta0 (by decide) dX6_attach_81 lkX6_114 imX6_check seX6_check rfl rfl (by decide) (by decide) (Nat.le_of_ble_eq_true rfl) (g_X6_check hN2 hN8 hp0 hp64 wh153 a0 ta0 q158 tq158) (fun rv h159 qh159 => ?_)
            obtain ⟨wh159, fh159, rfl⟩ := qh159
            have hfh159 := hfh153.tr ((fh159.weak weak_PX_PXa).sub hp154)
            have F2h159 := F2h153.tr ((fh159.weak (only10 (fun _ => rfl))).sub hp154)
            show TT _ _ _ _ _ _ _ _ [] _
            refine tt_iload_n (pc := 84) dX6_attach_84 (.tail _ (.tail _ (.tail _ (.head _)))) ?_
            refine tw_iconst (pc := 85) dX6_attach_85 (by decide) (fun x160 ex160 => ?_)
            refine tw_icmp (tgt := 109) (pc := 86) dX6_attach_86 (by decide) (fun (c161 : a2.toInt = x160.toInt) => ?_) (fun (c161 : ¬ (a2.toInt = x160.toInt)) => ?_)
            · skip
              exfalso
              omega
            · skip
              refine tt_aload_n (pc := 89) dX6_attach_89 (.tail _ (.head _)) ?_
              refine tt_aload_n (pc := 90) dX6_attach_90 (.tail _ (.head _)) ?_
              refine tw_getr (pc := 91) dX6_attach_91 flX6_50 wh159 ta0 (by decide) rfl (fun f162 q163 ef162 gf162 tq163 => ?_)
              refine tt_iload_n (pc := 94) dX6_attach_94 (.tail _ (.tail _ (.tail _ (.head _)))) ?_
              refine tw_ald (pc := 95) dX6_attach_95 wh159 tq163 rfl (by decide) (by omega) (by omega) (fun f164 q165 ef164 gf164 tq165 => ?_)
              refine tw_callV (kc := 0) (ks := 0) (mc := 1) (ms := 4) (as := [.inr (some q165)]) (st := []) (pc := 96) wh159 ta0 (by decide) dX6_attach_96 lkX6_110 imX6_tell seX6_tell rfl rfl (by decide) (by decide) (Nat.le_of_ble_eq_true rfl) (g_X6_tell hN2 hN8 hp0 hp64 wh159 a0 ta0 q165 tq165) (fun rv h166 qh166 => ?_)
              obtain ⟨Th166, ph166, wh166, fh166, rfl⟩ := qh166
              have hfh166 := hfh159.tr ((fh166.weak weak_PX_PXa).sub hp154)
              have F2h166 := F2h159.tr ((fh166.weak (only10 (fun _ => rfl))).sub hp154)
              have ta0 := tup ph166 ta0
              have hp167 := hp154.tr ph166
              show TT _ _ _ _ _ _ _ _ [] _
              refine tt_aload_n (pc := 99) dX6_attach_99 (.tail _ (.head _)) ?_
              refine tt_aload_n (pc := 100) dX6_attach_100 (.tail _ (.head _)) ?_
              refine tw_getr (pc := 101) dX6_attach_101 flX6_50 wh166 ta0 (by decide) rfl (fun f168 q169 ef168 gf168 tq169 => ?_)
              refine tt_iload_n (pc := 104) dX6_attach_104 (.tail _ (.tail _ (.tail _ (.head _)))) ?_
              refine tw_ald (pc := 105) dX6_attach_105 wh166 tq169 rfl (by decide) (by omega) (by omega) (fun f170 q171 ef170 gf170 tq171 => ?_)
              refine tw_callV (kc := 0) (ks := 0) (mc := 0) (ms := 0) (as := [.inr (some q171)]) (st := []) (pc := 106) wh166 ta0 (by decide) dX6_attach_106 lkX6_114 imX6_check seX6_check rfl rfl (by decide) (by decide) (Nat.le_of_ble_eq_true rfl) (g_X6_check hN2 hN8 hp0 hp64 wh166 a0 ta0 q171 tq171) (fun rv h172 qh172 => ?_)
              obtain ⟨wh172, fh172, rfl⟩ := qh172
              have hfh172 := hfh166.tr ((fh172.weak weak_PX_PXa).sub hp167)
              have F2h172 := F2h166.tr ((fh172.weak (only10 (fun _ => rfl))).sub hp167)
              show TT _ _ _ _ _ _ _ _ [] _
              refine tt_stop ?_
              rw [hQ]
              exact Or.inl (Or.inl ⟨dX6_attach_109, rfl, rfl, _, hp167, wh172, hfh172, rfl, ⟨by omega, by omega, by omega, by omega⟩, q125, f127, x126, tk0, ef127, gf127, by omega, fr_arrI F2h172 tk0 rfl G10⟩)
        · skip
          refine tt_stop ?_
          rw [hQ]
          exact Or.inr (Or.inr ⟨rfl, rfl, rfl, ⟨by omega, by omega, by omega, by omega⟩, x126, ⟨q125, _, _, tq125, ef127, gf127⟩, by omega⟩)
      · skip
        refine tt_stop ?_
        rw [hQ]
        exact Or.inr (Or.inl ⟨rfl, rfl, rfl, by omega⟩)
