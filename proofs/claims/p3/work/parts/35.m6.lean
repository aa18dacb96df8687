abbrev mX5_init : tM := (RX5, cX5_init, 5, 1, 20, true)
set_option maxHeartbeats 4000000 in
theorem g_X5_init {l : Launch} {D : va_G} {N : Nat} {pk : Int} {τ : List Nat} (hN2 : 2 ≤ N) (hN8 : N ≤ 8) (hp0 : 0 ≤ pk) (hp64 : pk ≤ 64) {h : List tC} (hw : WT N pk τ h) (a0 : Nat) (ta0 : τ[a0]? = some 5) (a1 : Int32) (la1 : 0 ≤ a1.toInt) (ua1 : a1.toInt ≤ 7) (a2 : Int32) (a3 : Int32) (a4 : Int32) : TMc l D yX5_init cX5_init 5 none 1 20 0 0 [.inr (some a0), .inl a1, .inl a2, .inl a3, .inl a4] h (fun rv h' => WT N pk τ h' ∧ Fr PX τ h h' ∧ rv = none) := by
  refine tmc_of true rfl (by decide) (Nat.le_of_ble_eq_true rfl) ?_
  suffices HQ : ∀ Q0, Q0 = tRt cX5_init none (fun rv h' => WT N pk τ h' ∧ Fr PX τ h h' ∧ rv = none) → TT l D mX5_init Q0 0 0 0 [(0, .inr (some a0)), (1, .inl a1), (2, .inl a2), (3, .inl a3), (4, .inl a4)] [] h from HQ _ rfl
  intro Q0 hQ
  have hf : Fr PX τ h h := Fr.rf
  have ba2 := i_ty a2
  have ba3 := i_ty a3
  have ba4 := i_ty a4
  refine tt_aload_n (pc := 0) dX5_init_0 (.head _) ?_
  refine tt_obj (pc := 1) dX5_init_1 olX5_1 oi_obj oc_obj (by decide) (Nat.le_of_ble_eq_true rfl) ?_
  refine tt_aload_n (pc := 4) dX5_init_4 (.head _) ?_
  refine tt_iload_n (pc := 5) dX5_init_5 (.tail _ (.head _)) ?_
  refine tw_putF (P := PX) (pc := 6) dX5_init_6 flX5_7 rfl rfl hw ta0 (by decide) rfl ⟨by omega, by omega⟩ rfl (by decide) (by decide) (fun f15 h16 eh16 gh16 kh16 wh16 fh16 => ?_)
  have hfh16 := hf.tr fh16
  refine tt_aload_n (pc := 9) dX5_init_9 (.head _) ?_
  refine tt_iload_n (pc := 10) dX5_init_10 (.tail _ (.tail _ (.head _))) ?_
  refine tw_putF (P := PX) (pc := 11) dX5_init_11 flX5_13 rfl rfl wh16 ta0 (by decide) rfl ⟨by omega, by omega⟩ rfl (by decide) (by decide) (fun f17 h18 eh18 gh18 kh18 wh18 fh18 => ?_)
  have hfh18 := hfh16.tr fh18
  have G19 : (f17.set 1 (.inl a2 : tV))[0]? = some (.inl a1 : tV) := by
      rw [List.getElem?_set_ne (by decide)]
      have z9 := gh16.symm.trans eh18
      cases z9
      exact (List.getElem?_set_self kh16)
  refine tt_aload_n (pc := 14) dX5_init_14 (.head _) ?_
  refine tt_iload_n (pc := 15) dX5_init_15 (.tail _ (.tail _ (.tail _ (.head _)))) ?_
  refine tw_putF (P := PX) (pc := 16) dX5_init_16 flX5_16 rfl rfl wh18 ta0 (by decide) rfl ⟨by omega, by omega⟩ rfl (by decide) (by decide) (fun f20 h21 eh21 gh21 kh21 wh21 fh21 => ?_)
  have hfh21 := hfh18.tr fh21
  have G22 : (f20.set 2 (.inl a3 : tV))[1]? = some (.inl a2 : tV) := by
      rw [List.getElem?_set_ne (by decide)]
      have z9 := gh18.symm.trans eh21
      cases z9
      exact (List.getElem?_set_self kh18)
  have G23 : (f20.set 2 (.inl a3 : tV))[0]? = some (.inl a1 : tV) := by
      rw [List.getElem?_set_ne (by decide)]
      have z9 := gh18.symm.trans eh21
      cases z9
      exact G19
  refine tt_aload_n (pc := 19) dX5_init_19 (.head _) ?_
  refine tt_iload (pc := 20) dX5_init_20 (.tail _ (.tail _ (.tail _ (.tail _ (.head _))))) ?_
  refine tw_putF (P := PX) (pc := 22) dX5_init_22 flX5_19 rfl rfl wh21 ta0 (by decide) rfl ⟨by omega, by omega⟩ rfl (by decide) (by decide) (fun f24 h25 eh25 gh25 kh25 wh25 fh25 => ?_)
  have hfh25 := hfh21.tr fh25
  have G26 : (f24.set 3 (.inl a4 : tV))[2]? = some (.inl a3 : tV) := by
      rw [List.getElem?_set_ne (by decide)]
      have z9 := gh21.symm.trans eh25
      cases z9
      exact (List.getElem?_set_self kh21)
  have G27 : (f24.set 3 (.inl a4 : tV))[1]? = some (.inl a2 : tV) := by
      rw [List.getElem?_set_ne (by decide)]
      have z9 := gh21.symm.trans eh25
      cases z9
      exact G22
  have G28 : (f24.set 3 (.inl a4 : tV))[0]? = some (.inl a1 : tV) := by
      rw [List.getElem?_set_ne (by decide)]
      have z9 := gh21.symm.trans eh25
      cases z9
      exact G23
  refine tt_stop ?_
  rw [hQ]
  exact Or.inl ⟨dX5_init_25, rfl, rfl, wh25, hfh25, rfl⟩
abbrev mX6_tell : tM := (RX6, cX6_tell, 5, 4, 90, false)
set_option maxHeartbeats 4000000 in
theorem g_X6_tell {l : Launch} {D : va_G} {N : Nat} {pk : Int} {τ : List Nat} (hN2 : 2 ≤ N) (hN8 : N ≤ 8) (hp0 : 0 ≤ pk) (hp64 : pk ≤ 64) {h : List tC} (hw : WT N pk τ h) (a0 : Nat) (ta0 : τ[a0]? = some 6) (a1 : Nat) (ta1 : τ[a1]? = some 4) : TMc l D yX6_tell cX6_tell 5 none 4 90 1 4 [.inr (some a0), .inr (some a1)] h (fun rv h' => ∃ τ1 : List Nat, tPre τ τ1 ∧ WT N pk τ1 h' ∧ Fr PX τ h h' ∧ rv = none) := by
  refine tmc_of false rfl (by decide) (Nat.le_of_ble_eq_true rfl) ?_
  suffices HQ : ∀ Q0, Q0 = tRt cX6_tell none (fun rv h' => ∃ τ1 : List Nat, tPre τ τ1 ∧ WT N pk τ1 h' ∧ Fr PX τ h h' ∧ rv = none) → TT l D mX6_tell Q0 1 4 0 [(0, .inr (some a0)), (1, .inr (some a1))] [] h from HQ _ rfl
  intro Q0 hQ
  have hf : Fr PX τ h h := Fr.rf
  have hp : tPre τ τ := tPre.rf τ
  refine tt_aload_n (pc := 0) dX6_tell_0 (.tail _ (.head _)) ?_
  refine tw_getr (pc := 1) dX6_tell_1 flX6_185 hw ta1 (by decide) rfl (fun f48 q49 ef48 gf48 tq49 => ?_)
  refine tt_aload_n (pc := 4) dX6_tell_4 (.tail _ (.head _)) ?_
  refine tw_geti (pc := 5) dX6_tell_5 flX6_249 hw ta1 (by decide) rfl (fun f50 x51 ef50 gf50 lx51 ux51 => ?_)
  refine tw_aldn (pc := 8) dX6_tell_8 hw tq49 rfl (by decide) (by omega) (by omega) (fun f52 o53 ef52 gf52 to53 => ?_)
  refine tt_astore_n (pc := 9) dX6_tell_9 (by decide) ?_
  show TT _ _ _ _ _ _ _ [(2, .inr o53), (0, .inr (some a0)), (1, .inr (some a1))] _ _
  refine tt_aload_n (pc := 10) dX6_tell_10 (.head _) ?_
  refine tt_ifnonnull (tgt := 18) (pc := 11) dX6_tell_11 (by decide) (fun q55 z54 => ?_) (fun z54 => ?_)
  · skip
    have tq55 := to53 q55 z54
    subst z54
    refine tt_aload_n (pc := 18) dX6_tell_18 (.head _) ?_
    refine tw_geti (pc := 19) dX6_tell_19 flX6_189 hw tq55 (by decide) rfl (fun f56 x57 ef56 gf56 lx57 ux57 => ?_)
    refine tw_iconst (pc := 22) dX6_tell_22 (by decide) (fun x58 ex58 => ?_)
    refine tt_iadd (pc := 23) dX6_tell_23 ?_
    refine tw_any (fun x59 => ?_)
    have bx59 := i_ty x59
    refine tt_istore_n (pc := 24) dX6_tell_24 (by decide) ?_
    show TT _ _ _ _ _ _ _ [(3, .inl x59), (2, .inr (some q55)), (0, .inr (some a0)), (1, .inr (some a1))] _ _
    refine tw_newR (P := PX) (kc := 0) (ks := 0) (pc := 25) dX6_tell_25 klX6_190 hw (fun q60 h61 tq60 wh61 fh61 => ?_)
    have ph61 : tPre τ (τ ++ [5]) := ⟨_, rfl⟩
    have hfh61 := hf.tr (fh61.sub hp)
    have ta0 := tup ph61 ta0
    have ta1 := tup ph61 ta1
    have tq55 := tup ph61 tq55
    have hp62 := hp.tr ph61
    refine tt_dup (pc := 28) dX6_tell_28 ?_
    refine tt_aload_n (pc := 29) dX6_tell_29 (.tail _ (.tail _ (.tail _ (.head _)))) ?_
    refine tw_geti (pc := 30) dX6_tell_30 flX6_249 wh61 ta1 (by decide) rfl (fun f63 x64 ef63 gf63 lx64 ux64 => ?_)
    refine tt_iload_n (pc := 33) dX6_tell_33 (.head _) ?_
    refine tt_aload_n (pc := 34) dX6_tell_34 (.tail _ (.tail _ (.head _))) ?_
    refine tt_aload_n (pc := 35) dX6_tell_35 (.tail _ (.tail _ (.tail _ (.head _)))) ?_
    refine tt_get (pc := 36) dX6_tell_36 flX6_249 ef63 gf63 ?_
    refine tw_callV (kc := 0) (ks := 0) (mc := 0) (ms := 0) (as := [.inl x64]) (st := [.inl x59, .inl x64, .inr (some q60), .inr (some q60)]) (pc := 39) wh61 ta0 (by decide) dX6_tell_39 lkX6_252 imX6_linksUpAt seX6_linksUpAt rfl rfl (by decide) (by decide) (Nat.le_of_ble_eq_true rfl) (g_X6_linksUpAt hN2 hN8 hp0 hp64 wh61 a0 ta0 x64) (fun rv h65 qh65 => ?_)
    obtain ⟨rfl, x66, rfl, lx66, ux66⟩ := qh65
    show TT _ _ _ _ _ _ _ _ [.inl x66, .inl x59, .inl x64, .inr (some q60), .inr (some q60)] _
    refine tt_aload_n (pc := 42) dX6_tell_42 (.tail _ (.tail _ (.head _))) ?_
    refine tt_aload_n (pc := 43) dX6_tell_43 (.tail _ (.tail _ (.tail _ (.head _)))) ?_
    refine tt_get (pc := 44) dX6_tell_44 flX6_249 ef63 gf63 ?_
    refine tw_callV (kc := 0) (ks := 0) (mc := 0) (ms := 0) (as := [.inl x64]) (st := [.inl x66, .inl x59, .inl x64, .inr (some q60), .inr (some q60)]) (pc := 47) wh61 ta0 (by decide) dX6_tell_47 lkX6_255 imX6_prefixesAt seX6_prefixesAt rfl rfl (by decide) (by decide) (Nat.le_of_ble_eq_true rfl) (g_X6_prefixesAt hN2 hN8 hp0 hp64 wh61 a0 ta0 x64) (fun rv h67 qh67 => ?_)
    obtain ⟨rfl, x68, rfl, lx68, ux68⟩ := qh67
    show TT _ _ _ _ _ _ _ _ [.inl x68, .inl x66, .inl x59, .inl x64, .inr (some q60), .inr (some q60)] _
    refine tt_callI (kc := 0) (ks := 0) (mc := 0) (ms := 0) (a := q60) (as := [.inl x64, .inl x59, .inl x66, .inl x68]) (st := [.inr (some q60)]) (pc := 50) dX6_tell_50 lkX6_258 imX5_init rfl rfl (by decide) (by decide) (Nat.le_of_ble_eq_true rfl) (g_X5_init hN2 hN8 hp0 hp64 wh61 q60 tq60 x64 (by omega) (by omega) x59 x66 x68) (fun rv h69 qh69 => ?_)
    obtain ⟨wh69, fh69, rfl⟩ := qh69
    have hfh69 := hfh61.tr (fh69.sub hp62)
    show TT _ _ _ _ _ _ _ _ [.inr (some q60)] _
    refine tt_astore (pc := 53) dX6_tell_53 (by decide) ?_
    show TT _ _ _ _ _ _ _ [(4, .inr (some q60)), (3, .inl x59), (2, .inr (some q55)), (0, .inr (some a0)), (1, .inr (some a1))] _ _
    refine tt_aload_n (pc := 55) dX6_tell_55 (.tail _ (.tail _ (.tail _ (.head _)))) ?_
    refine tt_aload_n (pc := 56) dX6_tell_56 (.tail _ (.tail _ (.tail _ (.tail _ (.head _))))) ?_
    refine tt_aload (pc := 57) dX6_tell_57 (.head _) ?_
    refine tw_callV (kc := 0) (ks := 0) (mc := 0) (ms := 0) (as := [.inr (some a1), .inr (some q60)]) (st := []) (pc := 59) wh69 ta0 (by decide) dX6_tell_59 lkX6_261 imX6_learn seX6_learn rfl rfl (by decide) (by decide) (Nat.le_of_ble_eq_true rfl) (g_X6_learn hN2 hN8 hp0 hp64 wh69 a0 ta0 a1 ta1 q60 tq60) (fun rv h70 qh70 => ?_)
    obtain ⟨wh70, fh70, rfl⟩ := qh70
    have hfh70 := hfh69.tr (fh70.sub hp62)
    show TT _ _ _ _ _ _ _ _ [] _
    refine tt_aload_n (pc := 62) dX6_tell_62 (.tail _ (.tail _ (.tail _ (.head _)))) ?_
    refine tt_aload_n (pc := 63) dX6_tell_63 (.tail _ (.tail _ (.tail _ (.tail _ (.head _))))) ?_
    refine tt_aload_n (pc := 64) dX6_tell_64 (.tail _ (.tail _ (.tail _ (.head _)))) ?_
    refine tw_getr (pc := 65) dX6_tell_65 flX6_35 wh70 ta0 (by decide) rfl (fun f71 q72 ef71 gf71 tq72 => ?_)
    refine tt_aload (pc := 68) dX6_tell_68 (.head _) ?_
    refine tw_callV (kc := 0) (ks := 0) (mc := 0) (ms := 0) (as := [.inr (some q60)]) (st := [.inr (some a1), .inr (some a0)]) (pc := 70) wh70 tq72 (by decide) dX6_tell_70 lkX6_265 imX1_asNote seX1_asNote rfl rfl (by decide) (by decide) (Nat.le_of_ble_eq_true rfl) (g_X1_asNote hN2 hN8 hp0 hp64 wh70 q72 tq72 q60 tq60) (fun rv h73 qh73 => ?_)
    obtain ⟨wh73, fh73, q74, rfl, tq74⟩ := qh73
    have hfh73 := hfh70.tr (fh73.sub hp62)
    show TT _ _ _ _ _ _ _ _ [.inr (some q74), .inr (some a1), .inr (some a0)] _
    refine tw_iconst (pc := 73) dX6_tell_73 (by decide) (fun x75 ex75 => ?_)
    refine tw_callV (kc := 0) (ks := 0) (mc := 0) (ms := 0) (as := [.inr (some a1), .inr (some q74), .inl x75]) (st := []) (pc := 74) wh73 ta0 (by decide) dX6_tell_74 lkX6_269 imX6_sendOnAll seX6_sendOnAll rfl rfl (by decide) (by decide) (Nat.le_of_ble_eq_true rfl) (g_X6_sendOnAll hN2 hN8 hp0 hp64 wh73 a0 ta0 a1 ta1 q74 tq74 x75) (fun rv h76 qh76 => ?_)
    obtain ⟨wh76, fh76, rfl⟩ := qh76
    have hfh76 := hfh73.tr (fh76.sub hp62)
    show TT _ _ _ _ _ _ _ _ [] _
    refine tt_stop ?_
    rw [hQ]
    exact Or.inl ⟨dX6_tell_77, rfl, rfl, _, hp62, wh76, hfh76, rfl⟩
  · skip
    subst z54
    refine tw_iconst (pc := 14) dX6_tell_14 (by decide) (fun x77 ex77 => ?_)
    refine tt_goto (tgt := 24) (pc := 15) dX6_tell_15 (by decide) ?_
    refine tt_istore_n (pc := 24) dX6_tell_24 (by decide) ?_
    show TT _ _ _ _ _ _ _ [(3, .inl x77), (2, .inr none), (0, .inr (some a0)), (1, .inr (some a1))] _ _
    refine tw_newR (P := PX) (kc := 0) (ks := 0) (pc := 25) dX6_tell_25 klX6_190 hw (fun q78 h79 tq78 wh79 fh79 => ?_)
    have ph79 : tPre τ (τ ++ [5]) := ⟨_, rfl⟩
    have hfh79 := hf.tr (fh79.sub hp)
    have ta0 := tup ph79 ta0
    have ta1 := tup ph79 ta1
    have hp80 := hp.tr ph79
    refine tt_dup (pc := 28) dX6_tell_28 ?_
    refine tt_aload_n (pc := 29) dX6_tell_29 (.tail _ (.tail _ (.tail _ (.head _)))) ?_
    refine tw_geti (pc := 30) dX6_tell_30 flX6_249 wh79 ta1 (by decide) rfl (fun f81 x82 ef81 gf81 lx82 ux82 => ?_)
    refine tt_iload_n (pc := 33) dX6_tell_33 (.head _) ?_
    refine tt_aload_n (pc := 34) dX6_tell_34 (.tail _ (.tail _ (.head _))) ?_
    refine tt_aload_n (pc := 35) dX6_tell_35 (.tail _ (.tail _ (.tail _ (.head _)))) ?_
    refine tt_get (pc := 36) dX6_tell_36 flX6_249 ef81 gf81 ?_
    refine tw_callV (kc := 0) (ks := 0) (mc := 0) (ms := 0) (as := [.inl x82]) (st := [.inl x77, .inl x82, .inr (some q78), .inr (some q78)]) (pc := 39) wh79 ta0 (by decide) dX6_tell_39 lkX6_252 imX6_linksUpAt seX6_linksUpAt rfl rfl (by decide) (by decide) (Nat.le_of_ble_eq_true rfl) (g_X6_linksUpAt hN2 hN8 hp0 hp64 wh79 a0 ta0 x82) (fun rv h83 qh83 => ?_)
    obtain ⟨rfl, x84, rfl, lx84, ux84⟩ := qh83
    show TT _ _ _ _ _ _ _ _ [.inl x84, .inl x77, .inl x82, .inr (some q78), .inr (some q78)] _
    refine tt_aload_n (pc := 42) dX6_tell_42 (.tail _ (.tail _ (.head _))) ?_
    refine tt_aload_n (pc := 43) dX6_tell_43 (.tail _ (.tail _ (.tail _ (.head _)))) ?_
    refine tt_get (pc := 44) dX6_tell_44 flX6_249 ef81 gf81 ?_
    refine tw_callV (kc := 0) (ks := 0) (mc := 0) (ms := 0) (as := [.inl x82]) (st := [.inl x84, .inl x77, .inl x82, .inr (some q78), .inr (some q78)]) (pc := 47) wh79 ta0 (by decide) dX6_tell_47 lkX6_255 imX6_prefixesAt seX6_prefixesAt rfl rfl (by decide) (by decide) (Nat.le_of_ble_eq_true rfl) (g_X6_prefixesAt hN2 hN8 hp0 hp64 wh79 a0 ta0 x82) (fun rv h85 qh85 => ?_)
    obtain ⟨rfl, x86, rfl, lx86, ux86⟩ := qh85
    show TT _ _ _ _ _ _ _ _ [.inl x86, .inl x84, .inl x77, .inl x82, .inr (some q78), .inr (some q78)] _
    refine tt_callI (kc := 0) (ks := 0) (mc := 0) (ms := 0) (a := q78) (as := [.inl x82, .inl x77, .inl x84, .inl x86]) (st := [.inr (some q78)]) (pc := 50) dX6_tell_50 lkX6_258 imX5_init rfl rfl (by decide) (by decide) (Nat.le_of_ble_eq_true rfl) (g_X5_init hN2 hN8 hp0 hp64 wh79 q78 tq78 x82 (by omega) (by omega) x77 x84 x86) (fun rv h87 qh87 => ?_)
    obtain ⟨wh87, fh87, rfl⟩ := qh87
    have hfh87 := hfh79.tr (fh87.sub hp80)
    show TT _ _ _ _ _ _ _ _ [.inr (some q78)] _
    refine tt_astore (pc := 53) dX6_tell_53 (by decide) ?_
    show TT _ _ _ _ _ _ _ [(4, .inr (some q78)), (3, .inl x77), (2, .inr none), (0, .inr (some a0)), (1, .inr (some a1))] _ _
    refine tt_aload_n (pc := 55) dX6_tell_55 (.tail _ (.tail _ (.tail _ (.head _)))) ?_
    refine tt_aload_n (pc := 56) dX6_tell_56 (.tail _ (.tail _ (.tail _ (.tail _ (.head _))))) ?_
    refine tt_aload (pc := 57) dX6_tell_57 (.head _) ?_
    refine tw_callV (kc := 0) (ks := 0) (mc := 0) (ms := 0) (as := [.inr (some a1), .inr (some q78)]) (st := []) (pc := 59) wh87 ta0 (by decide) dX6_tell_59 lkX6_261 imX6_learn seX6_learn rfl rfl (by decide) (by decide) (Nat.le_of_ble_eq_true rfl) (g_X6_learn hN2 hN8 hp0 hp64 wh87 a0 ta0 a1 ta1 q78 tq78) (fun rv h88 qh88 => ?_)
    obtain ⟨wh88, fh88, rfl⟩ := qh88
    have hfh88 := hfh87.tr (fh88.sub hp80)
    show TT _ _ _ _ _ _ _ _ [] _
    refine tt_aload_n (pc := 62) dX6_tell_62 (.tail _ (.tail _ (.tail _ (.head _)))) ?_
    refine tt_aload_n (pc := 63) dX6_tell_63 (.tail _ (.tail _ (.tail _ (.tail _ (.head _))))) ?_
    refine tt_aload_n (pc := 64) dX6_tell_64 (.tail _ (.tail _ (.tail _ (.head _)))) ?_
    refine tw_getr (pc := 65) dX6_tell_65 flX6_35 wh88 ta0 (by decide) rfl (fun f89 q90 ef89 gf89 tq90 => ?_)
    refine tt_aload (pc := 68) dX6_tell_68 (.head _) ?_
    refine tw_callV (kc := 0) (ks := 0) (mc := 0) (ms := 0) (as := [.inr (some q78)]) (st := [.inr (some a1), .inr (some a0)]) (pc := 70) wh88 tq90 (by decide) dX6_tell_70 lkX6_265 imX1_asNote seX1_asNote rfl rfl (by decide) (by decide) (Nat.le_of_ble_eq_true rfl) (g_X1_asNote hN2 hN8 hp0 hp64 wh88 q90 tq90 q78 tq78) (fun rv h91 qh91 => ?_)
    obtain ⟨wh91, fh91, q92, rfl, tq92⟩ := qh91
    have hfh91 := hfh88.tr (fh91.sub hp80)
    show TT _ _ _ _ _ _ _ _ [.inr (some q92), .inr (some a1), .inr (some a0)] _
    refine tw_iconst (pc := 73) dX6_tell_73 (by decide) (fun x93 ex93 => ?_)
    refine tw_callV (kc := 0) (ks := 0) (mc := 0) (ms := 0) (as := [.inr (some a1), .inr (some q92), .inl x93]) (st := []) (pc := 74) wh91 ta0 (by decide) dX6_tell_74 lkX6_269 imX6_sendOnAll seX6_sendOnAll rfl rfl (by decide) (by decide) (Nat.le_of_ble_eq_true rfl) (g_X6_sendOnAll hN2 hN8 hp0 hp64 wh91 a0 ta0 a1 ta1 q92 tq92 x93) (fun rv h94 qh94 => ?_)
    obtain ⟨wh94, fh94, rfl⟩ := qh94
    have hfh94 := hfh91.tr (fh94.sub hp80)
    show TT _ _ _ _ _ _ _ _ [] _
    refine tt_stop ?_
    rw [hQ]
    exact Or.inl ⟨dX6_tell_77, rfl, rfl, _, hp80, wh94, hfh94, rfl⟩
abbrev mX6_comesUp : tM := (RX6, cX6_comesUp, 5, 5, 119, false)
set_option maxHeartbeats 4000000 in
theorem g_X6_comesUp {l : Launch} {D : va_G} {N : Nat} {pk : Int} {τ : List Nat} (hN2 : 2 ≤ N) (hN8 : N ≤ 8) (hp0 : 0 ≤ pk) (hp64 : pk ≤ 64) {h : List tC} (hw : WT N pk τ h) (a0 : Nat) (ta0 : τ[a0]? = some 6) (a1 : Int32) (la1 : 0 ≤ a1.toInt) (ua1 : a1.toInt ≤ 11) : TMc l D yX6_comesUp cX6_comesUp 5 none 5 119 2 8 [.inr (some a0), .inl a1] h (fun rv h' => ∃ τ1 : List Nat, tPre τ τ1 ∧ WT N pk τ1 h' ∧ Fr PXt τ h h' ∧ rv = none) := by
  refine tmc_of false rfl (by decide) (Nat.le_of_ble_eq_true rfl) ?_
  suffices HQ : ∀ Q0, Q0 = tRt cX6_comesUp none (fun rv h' => ∃ τ1 : List Nat, tPre τ τ1 ∧ WT N pk τ1 h' ∧ Fr PXt τ h h' ∧ rv = none) → TT l D mX6_comesUp Q0 2 8 0 [(0, .inr (some a0)), (1, .inl a1)] [] h from HQ _ rfl
  intro Q0 hQ
  have hf : Fr PXt τ h h := Fr.rf
  have hp : tPre τ τ := tPre.rf τ
  refine tt_aload_n (pc := 0) dX6_comesUp_0 (.head _) ?_
  refine tw_getr (pc := 1) dX6_comesUp_1 flX6_11 hw ta0 (by decide) rfl (fun f30 q31 ef30 gf30 tq31 => ?_)
  refine tt_iload_n (pc := 4) dX6_comesUp_4 (.tail _ (.head _)) ?_
  refine tw_ald (pc := 5) dX6_comesUp_5 hw tq31 rfl (by decide) (by omega) (by omega) (fun f32 q33 ef32 gf32 tq33 => ?_)
  refine tt_astore_n (pc := 6) dX6_comesUp_6 (by decide) ?_
  show TT _ _ _ _ _ _ _ [(2, .inr (some q33)), (0, .inr (some a0)), (1, .inl a1)] _ _
  refine tt_aload_n (pc := 7) dX6_comesUp_7 (.tail _ (.head _)) ?_
  refine tw_getr (pc := 8) dX6_comesUp_8 flX6_50 hw ta0 (by decide) rfl (fun f34 q35 ef34 gf34 tq35 => ?_)
  refine tt_aload_n (pc := 11) dX6_comesUp_11 (.head _) ?_
  refine tw_geti (pc := 12) dX6_comesUp_12 flX6_81 hw tq33 (by decide) rfl (fun f36 x37 ef36 gf36 lx37 ux37 => ?_)
  refine tw_ald (pc := 15) dX6_comesUp_15 hw tq35 rfl (by decide) (by omega) (by omega) (fun f38 q39 ef38 gf38 tq39 => ?_)
  refine tt_astore_n (pc := 16) dX6_comesUp_16 (by decide) ?_
  show TT _ _ _ _ _ _ _ [(3, .inr (some q39)), (2, .inr (some q33)), (0, .inr (some a0)), (1, .inl a1)] _ _
  refine tt_aload_n (pc := 17) dX6_comesUp_17 (.tail _ (.tail _ (.head _))) ?_
  refine tt_get (pc := 18) dX6_comesUp_18 flX6_50 ef34 gf34 ?_
  refine tt_aload_n (pc := 21) dX6_comesUp_21 (.tail _ (.head _)) ?_
  refine tw_geti (pc := 22) dX6_comesUp_22 flX6_84 hw tq33 (by decide) rfl (fun f40 x41 ef40 gf40 lx41 ux41 => ?_)
  refine tw_ald (pc := 25) dX6_comesUp_25 hw tq35 rfl (by decide) (by omega) (by omega) (fun f42 q43 ef42 gf42 tq43 => ?_)
  refine tt_astore (pc := 26) dX6_comesUp_26 (by decide) ?_
  show TT _ _ _ _ _ _ _ [(4, .inr (some q43)), (3, .inr (some q39)), (2, .inr (some q33)), (0, .inr (some a0)), (1, .inl a1)] _ _
  refine tt_aload_n (pc := 28) dX6_comesUp_28 (.tail _ (.tail _ (.head _))) ?_
  refine tw_iconst (pc := 29) dX6_comesUp_29 (by decide) (fun x44 ex44 => ?_)
  refine tw_put (P := PXt) (pc := 30) dX6_comesUp_30 flX6_92 hw tq33 (by decide) rfl ⟨by omega, by omega⟩ (tfb (by omega) (by omega)) (by decide) (by decide) (fun f45 h46 eh46 gh46 kh46 wh46 fh46 => ?_)
  have hfh46 := hf.tr (fh46.sub hp)
  have G47 : (f45.set 1 (.inl x44 : tV))[2]? = some (.inl x37 : tV) := by
      rw [List.getElem?_set_ne (by decide)]
      have z9 := ef36.symm.trans eh46
      cases z9
      exact gf36
  have G48 : (f45.set 1 (.inl x44 : tV))[3]? = some (.inl x41 : tV) := by
      rw [List.getElem?_set_ne (by decide)]
      have z9 := ef40.symm.trans eh46
      cases z9
      exact gf40
  refine tt_aload_n (pc := 33) dX6_comesUp_33 (.tail _ (.tail _ (.tail _ (.head _)))) ?_
  refine tt_aload_n (pc := 34) dX6_comesUp_34 (.tail _ (.head _)) ?_
  refine tw_callV (kc := 1) (ks := 4) (mc := 1) (ms := 4) (as := [.inr (some q39)]) (st := []) (pc := 35) wh46 ta0 (by decide) dX6_comesUp_35 lkX6_110 imX6_tell seX6_tell rfl rfl (by decide) (by decide) (Nat.le_of_ble_eq_true rfl) (g_X6_tell hN2 hN8 hp0 hp64 wh46 a0 ta0 q39 tq39) (fun rv h49 qh49 => ?_)
  obtain ⟨Th49, ph49, wh49, fh49, rfl⟩ := qh49
  have hfh49 := hfh46.tr ((fh49.weak weak_PX_PXt).sub hp)
  have ta0 := tup ph49 ta0
  have tq33 := tup ph49 tq33
  have tq39 := tup ph49 tq39
  have tq43 := tup ph49 tq43
  have hp50 := hp.tr ph49
  show TT _ _ _ _ _ _ _ _ [] _
  refine tt_aload_n (pc := 38) dX6_comesUp_38 (.tail _ (.tail _ (.tail _ (.head _)))) ?_
  refine tt_aload (pc := 39) dX6_comesUp_39 (.head _) ?_
  refine tw_callV (kc := 0) (ks := 0) (mc := 1) (ms := 4) (as := [.inr (some q43)]) (st := []) (pc := 41) wh49 ta0 (by decide) dX6_comesUp_41 lkX6_110 imX6_tell seX6_tell rfl rfl (by decide) (by decide) (Nat.le_of_ble_eq_true rfl) (g_X6_tell hN2 hN8 hp0 hp64 wh49 a0 ta0 q43 tq43) (fun rv h51 qh51 => ?_)
  obtain ⟨Th51, ph51, wh51, fh51, rfl⟩ := qh51
  have hfh51 := hfh49.tr ((fh51.weak weak_PX_PXt).sub hp50)
  have ta0 := tup ph51 ta0
  have tq33 := tup ph51 tq33
  have tq39 := tup ph51 tq39
  have tq43 := tup ph51 tq43
  have hp52 := hp50.tr ph51
  show TT _ _ _ _ _ _ _ _ [] _
  refine tt_aload_n (pc := 44) dX6_comesUp_44 (.tail _ (.tail _ (.tail _ (.head _)))) ?_
  refine tt_aload_n (pc := 45) dX6_comesUp_45 (.tail _ (.head _)) ?_
  refine tt_iload_n (pc := 46) dX6_comesUp_46 (.tail _ (.tail _ (.tail _ (.tail _ (.head _))))) ?_
  refine tw_callV (kc := 0) (ks := 0) (mc := 0) (ms := 0) (as := [.inr (some q39), .inl a1]) (st := []) (pc := 47) wh51 ta0 (by decide) dX6_comesUp_47 lkX6_232 imX6_putKnownNotes seX6_putKnownNotes rfl rfl (by decide) (by decide) (Nat.le_of_ble_eq_true rfl) (g_X6_putKnownNotes hN2 hN8 hp0 hp64 wh51 a0 ta0 q39 tq39 a1 (by omega) (by omega)) (fun rv h53 qh53 => ?_)
  obtain ⟨wh53, fh53, rfl⟩ := qh53
  have hfh53 := hfh51.tr ((fh53.weak weak_PX_PXt).sub hp52)
  show TT _ _ _ _ _ _ _ _ [] _
  refine tt_aload_n (pc := 50) dX6_comesUp_50 (.tail _ (.tail _ (.tail _ (.head _)))) ?_
  refine tt_aload (pc := 51) dX6_comesUp_51 (.head _) ?_
  refine tt_iload_n (pc := 53) dX6_comesUp_53 (.tail _ (.tail _ (.tail _ (.tail _ (.head _))))) ?_
  refine tw_callV (kc := 0) (ks := 0) (mc := 0) (ms := 0) (as := [.inr (some q43), .inl a1]) (st := []) (pc := 54) wh53 ta0 (by decide) dX6_comesUp_54 lkX6_232 imX6_putKnownNotes seX6_putKnownNotes rfl rfl (by decide) (by decide) (Nat.le_of_ble_eq_true rfl) (g_X6_putKnownNotes hN2 hN8 hp0 hp64 wh53 a0 ta0 q43 tq43 a1 (by omega) (by omega)) (fun rv h54 qh54 => ?_)
  obtain ⟨wh54, fh54, rfl⟩ := qh54
  have hfh54 := hfh53.tr ((fh54.weak weak_PX_PXt).sub hp52)
  show TT _ _ _ _ _ _ _ _ [] _
  refine tt_aload_n (pc := 57) dX6_comesUp_57 (.tail _ (.tail _ (.tail _ (.head _)))) ?_
  refine tt_aload_n (pc := 58) dX6_comesUp_58 (.tail _ (.head _)) ?_
  refine tt_iload_n (pc := 59) dX6_comesUp_59 (.tail _ (.tail _ (.tail _ (.tail _ (.head _))))) ?_
  refine tw_callV (kc := 0) (ks := 0) (mc := 0) (ms := 0) (as := [.inr (some q39), .inl a1]) (st := []) (pc := 60) wh54 ta0 (by decide) dX6_comesUp_60 lkX6_236 imX6_putMappings seX6_putMappings rfl rfl (by decide) (by decide) (Nat.le_of_ble_eq_true rfl) (g_X6_putMappings hN2 hN8 hp0 hp64 wh54 a0 ta0 q39 tq39 a1 (by omega) (by omega)) (fun rv h55 qh55 => ?_)
  obtain ⟨wh55, fh55, rfl⟩ := qh55
  have hfh55 := hfh54.tr ((fh55.weak weak_PX_PXt).sub hp52)
  show TT _ _ _ _ _ _ _ _ [] _
  refine tt_aload_n (pc := 63) dX6_comesUp_63 (.tail _ (.tail _ (.tail _ (.head _)))) ?_
  refine tt_aload (pc := 64) dX6_comesUp_64 (.head _) ?_
  refine tt_iload_n (pc := 66) dX6_comesUp_66 (.tail _ (.tail _ (.tail _ (.tail _ (.head _))))) ?_
  refine tw_callV (kc := 0) (ks := 0) (mc := 0) (ms := 0) (as := [.inr (some q43), .inl a1]) (st := []) (pc := 67) wh55 ta0 (by decide) dX6_comesUp_67 lkX6_236 imX6_putMappings seX6_putMappings rfl rfl (by decide) (by decide) (Nat.le_of_ble_eq_true rfl) (g_X6_putMappings hN2 hN8 hp0 hp64 wh55 a0 ta0 q43 tq43 a1 (by omega) (by omega)) (fun rv h56 qh56 => ?_)
  obtain ⟨wh56, fh56, rfl⟩ := qh56
  have hfh56 := hfh55.tr ((fh56.weak weak_PX_PXt).sub hp52)
  show TT _ _ _ _ _ _ _ _ [] _
  refine tt_aload_n (pc := 70) dX6_comesUp_70 (.tail _ (.tail _ (.tail _ (.head _)))) ?_
  refine tt_aload_n (pc := 71) dX6_comesUp_71 (.tail _ (.head _)) ?_
  refine tw_callV (kc := 0) (ks := 0) (mc := 0) (ms := 0) (as := [.inr (some q39)]) (st := []) (pc := 72) wh56 ta0 (by decide) dX6_comesUp_72 lkX6_114 imX6_check seX6_check rfl rfl (by decide) (by decide) (Nat.le_of_ble_eq_true rfl) (g_X6_check hN2 hN8 hp0 hp64 wh56 a0 ta0 q39 tq39) (fun rv h57 qh57 => ?_)
  obtain ⟨wh57, fh57, rfl⟩ := qh57
  have hfh57 := hfh56.tr ((fh57.weak weak_PX_PXt).sub hp52)
  show TT _ _ _ _ _ _ _ _ [] _
  refine tt_aload_n (pc := 75) dX6_comesUp_75 (.tail _ (.tail _ (.tail _ (.head _)))) ?_
  refine tt_aload (pc := 76) dX6_comesUp_76 (.head _) ?_
  refine tw_callV (kc := 0) (ks := 0) (mc := 0) (ms := 0) (as := [.inr (some q43)]) (st := []) (pc := 78) wh57 ta0 (by decide) dX6_comesUp_78 lkX6_114 imX6_check seX6_check rfl rfl (by decide) (by decide) (Nat.le_of_ble_eq_true rfl) (g_X6_check hN2 hN8 hp0 hp64 wh57 a0 ta0 q43 tq43) (fun rv h58 qh58 => ?_)
  obtain ⟨wh58, fh58, rfl⟩ := qh58
  have hfh58 := hfh57.tr ((fh58.weak weak_PX_PXt).sub hp52)
  show TT _ _ _ _ _ _ _ _ [] _
  refine tt_stop ?_
  rw [hQ]
  exact Or.inl ⟨dX6_comesUp_81, rfl, rfl, _, hp52, wh58, hfh58, rfl⟩
abbrev mX6_goesDown : tM := (RX6, cX6_goesDown, 5, 5, 119, false)
set_option maxHeartbeats 4000000 in
theorem g_X6_goesDown {l : Launch} {D : va_G} {N : Nat} {pk : Int} {τ : List Nat} (hN2 : 2 ≤ N) (hN8 : N ≤ 8) (hp0 : 0 ≤ pk) (hp64 : pk ≤ 64) {h : List tC} (hw : WT N pk τ h) (a0 : Nat) (ta0 : τ[a0]? = some 6) (a1 : Int32) (la1 : 0 ≤ a1.toInt) (ua1 : a1.toInt ≤ 11) : TMc l D yX6_goesDown cX6_goesDown 5 none 5 119 2 8 [.inr (some a0), .inl a1] h (fun rv h' => ∃ τ1 : List Nat, tPre τ τ1 ∧ WT N pk τ1 h' ∧ Fr PXt τ h h' ∧ rv = none) := by
  refine tmc_of false rfl (by decide) (Nat.le_of_ble_eq_true rfl) ?_
  suffices HQ : ∀ Q0, Q0 = tRt cX6_goesDown none (fun rv h' => ∃ τ1 : List Nat, tPre τ τ1 ∧ WT N pk τ1 h' ∧ Fr PXt τ h h' ∧ rv = none) → TT l D mX6_goesDown Q0 2 8 0 [(0, .inr (some a0)), (1, .inl a1)] [] h from HQ _ rfl
  intro Q0 hQ
  have hf : Fr PXt τ h h := Fr.rf
  have hp : tPre τ τ := tPre.rf τ
  refine tt_aload_n (pc := 0) dX6_goesDown_0 (.head _) ?_
  refine tw_getr (pc := 1) dX6_goesDown_1 flX6_11 hw ta0 (by decide) rfl (fun f40 q41 ef40 gf40 tq41 => ?_)
  refine tt_iload_n (pc := 4) dX6_goesDown_4 (.tail _ (.head _)) ?_
  refine tw_ald (pc := 5) dX6_goesDown_5 hw tq41 rfl (by decide) (by omega) (by omega) (fun f42 q43 ef42 gf42 tq43 => ?_)
  refine tt_astore_n (pc := 6) dX6_goesDown_6 (by decide) ?_
  show TT _ _ _ _ _ _ _ [(2, .inr (some q43)), (0, .inr (some a0)), (1, .inl a1)] _ _
  refine tt_aload_n (pc := 7) dX6_goesDown_7 (.tail _ (.head _)) ?_
  refine tw_getr (pc := 8) dX6_goesDown_8 flX6_50 hw ta0 (by decide) rfl (fun f44 q45 ef44 gf44 tq45 => ?_)
  refine tt_aload_n (pc := 11) dX6_goesDown_11 (.head _) ?_
  refine tw_geti (pc := 12) dX6_goesDown_12 flX6_81 hw tq43 (by decide) rfl (fun f46 x47 ef46 gf46 lx47 ux47 => ?_)
  refine tw_ald (pc := 15) dX6_goesDown_15 hw tq45 rfl (by decide) (by omega) (by omega) (fun f48 q49 ef48 gf48 tq49 => ?_)
  refine tt_astore_n (pc := 16) dX6_goesDown_16 (by decide) ?_
  show TT _ _ _ _ _ _ _ [(3, .inr (some q49)), (2, .inr (some q43)), (0, .inr (some a0)), (1, .inl a1)] _ _
  refine tt_aload_n (pc := 17) dX6_goesDown_17 (.tail _ (.tail _ (.head _))) ?_
  refine tt_get (pc := 18) dX6_goesDown_18 flX6_50 ef44 gf44 ?_
  refine tt_aload_n (pc := 21) dX6_goesDown_21 (.tail _ (.head _)) ?_
  refine tw_geti (pc := 22) dX6_goesDown_22 flX6_84 hw tq43 (by decide) rfl (fun f50 x51 ef50 gf50 lx51 ux51 => ?_)
  refine tw_ald (pc := 25) dX6_goesDown_25 hw tq45 rfl (by decide) (by omega) (by omega) (fun f52 q53 ef52 gf52 tq53 => ?_)
  refine tt_astore (pc := 26) dX6_goesDown_26 (by decide) ?_
  show TT _ _ _ _ _ _ _ [(4, .inr (some q53)), (3, .inr (some q49)), (2, .inr (some q43)), (0, .inr (some a0)), (1, .inl a1)] _ _
  refine tt_aload_n (pc := 28) dX6_goesDown_28 (.tail _ (.tail _ (.head _))) ?_
  refine tw_iconst (pc := 29) dX6_goesDown_29 (by decide) (fun x54 ex54 => ?_)
  refine tw_put (P := PXt) (pc := 30) dX6_goesDown_30 flX6_92 hw tq43 (by decide) rfl ⟨by omega, by omega⟩ (tfb (by omega) (by omega)) (by decide) (by decide) (fun f55 h56 eh56 gh56 kh56 wh56 fh56 => ?_)
  have hfh56 := hf.tr (fh56.sub hp)
  have G57 : (f55.set 1 (.inl x54 : tV))[2]? = some (.inl x47 : tV) := by
      rw [List.getElem?_set_ne (by decide)]
      have z9 := ef46.symm.trans eh56
      cases z9
      exact gf46
  have G58 : (f55.set 1 (.inl x54 : tV))[3]? = some (.inl x51 : tV) := by
      rw [List.getElem?_set_ne (by decide)]
      have z9 := ef50.symm.trans eh56
      cases z9
      exact gf50
  refine tt_aload_n (pc := 33) dX6_goesDown_33 (.tail _ (.tail _ (.tail _ (.head _)))) ?_
  refine tt_aload_n (pc := 34) dX6_goesDown_34 (.tail _ (.tail _ (.head _))) ?_
  refine tw_getr (pc := 35) dX6_goesDown_35 flX6_131 wh56 tq43 (by decide) rfl (fun f59 q60 ef59 gf59 tq60 => ?_)
  refine tw_iconst (pc := 38) dX6_goesDown_38 (by decide) (fun x61 ex61 => ?_)
  refine tw_ald (pc := 39) dX6_goesDown_39 wh56 tq60 rfl (by decide) (by omega) (by omega) (fun f62 q63 ef62 gf62 tq63 => ?_)
  refine tw_callV (kc := 2) (ks := 8) (mc := 0) (ms := 0) (as := [.inr (some q63)]) (st := []) (pc := 40) wh56 ta0 (by decide) dX6_goesDown_40 lkX6_239 imX6_cut seX6_cut rfl rfl (by decide) (by decide) (Nat.le_of_ble_eq_true rfl) (g_X6_cut hN2 hN8 hp0 hp64 wh56 a0 ta0 q63 tq63) (fun rv h64 qh64 => ?_)
  obtain ⟨wh64, fh64, rfl⟩ := qh64
  have hfh64 := hfh56.tr ((fh64.weak weak_PX_PXt).sub hp)
  show TT _ _ _ _ _ _ _ _ [] _
  refine tt_aload_n (pc := 43) dX6_goesDown_43 (.tail _ (.tail _ (.tail _ (.head _)))) ?_
  refine tt_aload_n (pc := 44) dX6_goesDown_44 (.tail _ (.tail _ (.head _))) ?_
  refine tw_getr (pc := 45) dX6_goesDown_45 flX6_131 wh64 tq43 (by decide) rfl (fun f65 q66 ef65 gf65 tq66 => ?_)
  refine tw_iconst (pc := 48) dX6_goesDown_48 (by decide) (fun x67 ex67 => ?_)
  refine tw_ald (pc := 49) dX6_goesDown_49 wh64 tq66 rfl (by decide) (by omega) (by omega) (fun f68 q69 ef68 gf68 tq69 => ?_)
  refine tw_callV (kc := 2) (ks := 8) (mc := 0) (ms := 0) (as := [.inr (some q69)]) (st := []) (pc := 50) wh64 ta0 (by decide) dX6_goesDown_50 lkX6_239 imX6_cut seX6_cut rfl rfl (by decide) (by decide) (Nat.le_of_ble_eq_true rfl) (g_X6_cut hN2 hN8 hp0 hp64 wh64 a0 ta0 q69 tq69) (fun rv h70 qh70 => ?_)
  obtain ⟨wh70, fh70, rfl⟩ := qh70
  have hfh70 := hfh64.tr ((fh70.weak weak_PX_PXt).sub hp)
  show TT _ _ _ _ _ _ _ _ [] _
  refine tt_aload_n (pc := 53) dX6_goesDown_53 (.tail _ (.tail _ (.tail _ (.head _)))) ?_
  refine tt_aload_n (pc := 54) dX6_goesDown_54 (.tail _ (.head _)) ?_
  refine tw_callV (kc := 1) (ks := 4) (mc := 1) (ms := 4) (as := [.inr (some q49)]) (st := []) (pc := 55) wh70 ta0 (by decide) dX6_goesDown_55 lkX6_110 imX6_tell seX6_tell rfl rfl (by decide) (by decide) (Nat.le_of_ble_eq_true rfl) (g_X6_tell hN2 hN8 hp0 hp64 wh70 a0 ta0 q49 tq49) (fun rv h71 qh71 => ?_)
  obtain ⟨Th71, ph71, wh71, fh71, rfl⟩ := qh71
  have hfh71 := hfh70.tr ((fh71.weak weak_PX_PXt).sub hp)
  have ta0 := tup ph71 ta0
  have tq43 := tup ph71 tq43
  have tq49 := tup ph71 tq49
  have tq53 := tup ph71 tq53
  have hp72 := hp.tr ph71
  show TT _ _ _ _ _ _ _ _ [] _
  refine tt_aload_n (pc := 58) dX6_goesDown_58 (.tail _ (.tail _ (.tail _ (.head _)))) ?_
  refine tt_aload (pc := 59) dX6_goesDown_59 (.head _) ?_
  refine tw_callV (kc := 0) (ks := 0) (mc := 1) (ms := 4) (as := [.inr (some q53)]) (st := []) (pc := 61) wh71 ta0 (by decide) dX6_goesDown_61 lkX6_110 imX6_tell seX6_tell rfl rfl (by decide) (by decide) (Nat.le_of_ble_eq_true rfl) (g_X6_tell hN2 hN8 hp0 hp64 wh71 a0 ta0 q53 tq53) (fun rv h73 qh73 => ?_)
  obtain ⟨Th73, ph73, wh73, fh73, rfl⟩ := qh73
  have hfh73 := hfh71.tr ((fh73.weak weak_PX_PXt).sub hp72)
  have ta0 := tup ph73 ta0
  have tq43 := tup ph73 tq43
  have tq49 := tup ph73 tq49
  have tq53 := tup ph73 tq53
  have hp74 := hp72.tr ph73
  show TT _ _ _ _ _ _ _ _ [] _
  refine tt_aload_n (pc := 64) dX6_goesDown_64 (.tail _ (.head _)) ?_
  refine tt_iload_n (pc := 65) dX6_goesDown_65 (.tail _ (.tail _ (.tail _ (.tail _ (.head _))))) ?_
  refine tw_callV (kc := 0) (ks := 0) (mc := 0) (ms := 0) (as := [.inl a1]) (st := []) (pc := 66) wh73 tq49 (by decide) dX6_goesDown_66 lkX6_243 imX4_forgetLink seX4_forgetLink rfl rfl (by decide) (by decide) (Nat.le_of_ble_eq_true rfl) (g_X4_forgetLink hN2 hN8 hp0 hp64 wh73 q49 tq49 a1 (by omega) (by omega)) (fun rv h75 qh75 => ?_)
  obtain ⟨wh75, fh75, rfl⟩ := qh75
  have hfh75 := hfh73.tr ((fh75.weak weak_PX_PXt).sub hp74)
  show TT _ _ _ _ _ _ _ _ [] _
  refine tt_aload (pc := 69) dX6_goesDown_69 (.head _) ?_
  refine tt_iload_n (pc := 71) dX6_goesDown_71 (.tail _ (.tail _ (.tail _ (.tail _ (.head _))))) ?_
  refine tw_callV (kc := 0) (ks := 0) (mc := 0) (ms := 0) (as := [.inl a1]) (st := []) (pc := 72) wh75 tq53 (by decide) dX6_goesDown_72 lkX6_243 imX4_forgetLink seX4_forgetLink rfl rfl (by decide) (by decide) (Nat.le_of_ble_eq_true rfl) (g_X4_forgetLink hN2 hN8 hp0 hp64 wh75 q53 tq53 a1 (by omega) (by omega)) (fun rv h76 qh76 => ?_)
  obtain ⟨wh76, fh76, rfl⟩ := qh76
  have hfh76 := hfh75.tr ((fh76.weak weak_PX_PXt).sub hp74)
  show TT _ _ _ _ _ _ _ _ [] _
  refine tt_aload_n (pc := 75) dX6_goesDown_75 (.tail _ (.tail _ (.tail _ (.head _)))) ?_
  refine tt_aload_n (pc := 76) dX6_goesDown_76 (.tail _ (.head _)) ?_
  refine tw_callV (kc := 0) (ks := 0) (mc := 0) (ms := 0) (as := [.inr (some q49)]) (st := []) (pc := 77) wh76 ta0 (by decide) dX6_goesDown_77 lkX6_114 imX6_check seX6_check rfl rfl (by decide) (by decide) (Nat.le_of_ble_eq_true rfl) (g_X6_check hN2 hN8 hp0 hp64 wh76 a0 ta0 q49 tq49) (fun rv h77 qh77 => ?_)
  obtain ⟨wh77, fh77, rfl⟩ := qh77
  have hfh77 := hfh76.tr ((fh77.weak weak_PX_PXt).sub hp74)
  show TT _ _ _ _ _ _ _ _ [] _
  refine tt_aload_n (pc := 80) dX6_goesDown_80 (.tail _ (.tail _ (.tail _ (.head _)))) ?_
  refine tt_aload (pc := 81) dX6_goesDown_81 (.head _) ?_
  refine tw_callV (kc := 0) (ks := 0) (mc := 0) (ms := 0) (as := [.inr (some q53)]) (st := []) (pc := 83) wh77 ta0 (by decide) dX6_goesDown_83 lkX6_114 imX6_check seX6_check rfl rfl (by decide) (by decide) (Nat.le_of_ble_eq_true rfl) (g_X6_check hN2 hN8 hp0 hp64 wh77 a0 ta0 q53 tq53) (fun rv h78 qh78 => ?_)
  obtain ⟨wh78, fh78, rfl⟩ := qh78
  have hfh78 := hfh77.tr ((fh78.weak weak_PX_PXt).sub hp74)
  show TT _ _ _ _ _ _ _ _ [] _
  refine tt_stop ?_
  rw [hQ]
  exact Or.inl ⟨dX6_goesDown_86, rfl, rfl, _, hp74, wh78, hfh78, rfl⟩
