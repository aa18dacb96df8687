abbrev mX6_noteComes : tM := (RX6, cX6_noteComes, 5, 4, 90, false)
set_option maxHeartbeats 4000000 in
theorem g_X6_noteComes {l : Launch} {D : va_G} {N : Nat} {pk : Int} {τ : List Nat} (hN2 : 2 ≤ N) (hN8 : N ≤ 8) (hp0 : 0 ≤ pk) (hp64 : pk ≤ 64) {h : List tC} (hw : WT N pk τ h) (a0 : Nat) (ta0 : τ[a0]? = some 6) (a1 : Nat) (ta1 : τ[a1]? = some 4) (a2 : Int32) (la2 : 0 ≤ a2.toInt) (ua2 : a2.toInt ≤ 11) (a3 : Option Nat) (ta3 : ∀ q, a3 = some q → τ[q]? = some 5) : TMc l D yX6_noteComes cX6_noteComes 5 (some .boolean) 4 90 0 0 [.inr (some a0), .inr (some a1), .inl a2, .inr a3] h (fun rv h' => WT N pk τ h' ∧ Fr PX τ h h' ∧ ∃ x : Int32, rv = some (.inl x) ∧ 0 ≤ x.toInt ∧ x.toInt ≤ 1) := by
  refine tmc_of false rfl (by decide) (Nat.le_of_ble_eq_true rfl) ?_
  suffices HQ : ∀ Q0, Q0 = tRt cX6_noteComes (some .boolean) (fun rv h' => WT N pk τ h' ∧ Fr PX τ h h' ∧ ∃ x : Int32, rv = some (.inl x) ∧ 0 ≤ x.toInt ∧ x.toInt ≤ 1) → TT l D mX6_noteComes Q0 0 0 0 [(0, .inr (some a0)), (1, .inr (some a1)), (2, .inl a2), (3, .inr a3)] [] h from HQ _ rfl
  intro Q0 hQ
  have hf : Fr PX τ h h := Fr.rf
  have B95 : ∀ (hb : List tC) (hwb : WT N pk τ hb) (hfb : Fr PX τ h hb), TT l D mX6_noteComes Q0 0 0 95 [] [] hb := by
    intro hb hwb hfb
    refine tw_iconst (pc := 95) dX6_noteComes_95 (by decide) (fun x36 ex36 => ?_)
    refine tt_stop ?_
    rw [hQ]
    exact Or.inr (Or.inl ⟨x36, dX6_noteComes_96, rfl, Or.inr ⟨rfl, bool01 (by omega) (by omega)⟩, hwb, hfb, x36, rfl, by omega, by omega⟩)
  have B45 : ∀ (hb : List tC) (hwb : WT N pk τ hb) (hfb : Fr PX τ h hb) (q37 : Nat) (tq37 : τ[q37]? = some 5), TT l D mX6_noteComes Q0 0 0 45 [(0, .inr (some a0)), (1, .inr (some a1)), (2, .inl a2), (3, .inr (some q37))] [] hb := by
    intro hb hwb hfb q37 tq37
    refine tt_aload_n (pc := 45) dX6_noteComes_45 (.head _) ?_
    refine tt_aload_n (pc := 46) dX6_noteComes_46 (.tail _ (.head _)) ?_
    refine tt_aload_n (pc := 47) dX6_noteComes_47 (.tail _ (.tail _ (.tail _ (.head _)))) ?_
    refine tw_callV (kc := 0) (ks := 0) (mc := 0) (ms := 0) (as := [.inr (some a1), .inr (some q37)]) (st := []) (pc := 48) hwb ta0 (by decide) dX6_noteComes_48 lkX6_261 imX6_learn seX6_learn rfl rfl (by decide) (by decide) (Nat.le_of_ble_eq_true rfl) (g_X6_learn hN2 hN8 hp0 hp64 hwb a0 ta0 a1 ta1 q37 tq37) (fun rv h38 qh38 => ?_)
    obtain ⟨wh38, fh38, rfl⟩ := qh38
    have hfh38 := hfb.tr fh38
    show TT _ _ _ _ _ _ _ _ [] _
    refine tt_aload_n (pc := 51) dX6_noteComes_51 (.head _) ?_
    refine tt_aload_n (pc := 52) dX6_noteComes_52 (.tail _ (.head _)) ?_
    refine tt_aload_n (pc := 53) dX6_noteComes_53 (.head _) ?_
    refine tw_getr (pc := 54) dX6_noteComes_54 flX6_35 wh38 ta0 (by decide) rfl (fun f39 q40 ef39 gf39 tq40 => ?_)
    refine tt_aload_n (pc := 57) dX6_noteComes_57 (.tail _ (.tail _ (.tail _ (.head _)))) ?_
    refine tw_callV (kc := 0) (ks := 0) (mc := 0) (ms := 0) (as := [.inr (some q37)]) (st := [.inr (some a1), .inr (some a0)]) (pc := 58) wh38 tq40 (by decide) dX6_noteComes_58 lkX6_265 imX1_asNote seX1_asNote rfl rfl (by decide) (by decide) (Nat.le_of_ble_eq_true rfl) (g_X1_asNote hN2 hN8 hp0 hp64 wh38 q40 tq40 q37 tq37) (fun rv h41 qh41 => ?_)
    obtain ⟨wh41, fh41, q42, rfl, tq42⟩ := qh41
    have hfh41 := hfh38.tr fh41
    show TT _ _ _ _ _ _ _ _ [.inr (some q42), .inr (some a1), .inr (some a0)] _
    refine tt_iload_n (pc := 61) dX6_noteComes_61 (.tail _ (.tail _ (.head _))) ?_
    refine tw_callV (kc := 0) (ks := 0) (mc := 0) (ms := 0) (as := [.inr (some a1), .inr (some q42), .inl a2]) (st := []) (pc := 62) wh41 ta0 (by decide) dX6_noteComes_62 lkX6_269 imX6_sendOnAll seX6_sendOnAll rfl rfl (by decide) (by decide) (Nat.le_of_ble_eq_true rfl) (g_X6_sendOnAll hN2 hN8 hp0 hp64 wh41 a0 ta0 a1 ta1 q42 tq42 a2) (fun rv h43 qh43 => ?_)
    obtain ⟨wh43, fh43, rfl⟩ := qh43
    have hfh43 := hfh41.tr fh43
    show TT _ _ _ _ _ _ _ _ [] _
    refine tw_iconst (pc := 65) dX6_noteComes_65 (by decide) (fun x44 ex44 => ?_)
    refine tt_stop ?_
    rw [hQ]
    exact Or.inr (Or.inl ⟨x44, dX6_noteComes_66, rfl, Or.inr ⟨rfl, bool01 (by omega) (by omega)⟩, wh43, hfh43, x44, rfl, by omega, by omega⟩)
  have B15 : ∀ (hb : List tC) (hwb : WT N pk τ hb) (hfb : Fr PX τ h hb), TT l D mX6_noteComes Q0 0 0 15 [] [] hb := by
    intro hb hwb hfb
    refine tw_iconst (pc := 15) dX6_noteComes_15 (by decide) (fun x45 ex45 => ?_)
    refine tt_stop ?_
    rw [hQ]
    exact Or.inr (Or.inl ⟨x45, dX6_noteComes_16, rfl, Or.inr ⟨rfl, bool01 (by omega) (by omega)⟩, hwb, hfb, x45, rfl, by omega, by omega⟩)
  refine tt_aload_n (pc := 0) dX6_noteComes_0 (.tail _ (.tail _ (.tail _ (.head _)))) ?_
  refine tt_ifnull (tgt := 15) (pc := 1) dX6_noteComes_1 (by decide) (fun z46 => ?_) (fun q47 z46 => ?_)
  · subst z46
    refine tt_loc [] (fun _ z => absurd z List.not_mem_nil) ?_
    exact B15 h hw hf
  · have tq47 := ta3 q47 z46
    subst z46
    refine tt_aload_n (pc := 4) dX6_noteComes_4 (.tail _ (.tail _ (.tail _ (.head _)))) ?_
    refine tw_geti (pc := 5) dX6_noteComes_5 flX6_284 hw tq47 (by decide) rfl (fun f48 x49 ef48 gf48 lx49 ux49 => ?_)
    refine tt_aload_n (pc := 8) dX6_noteComes_8 (.tail _ (.head _)) ?_
    refine tw_geti (pc := 9) dX6_noteComes_9 flX6_249 hw ta1 (by decide) rfl (fun f50 x51 ef50 gf50 lx51 ux51 => ?_)
    refine tw_icmp (tgt := 17) (pc := 12) dX6_noteComes_12 (by decide) (fun (c52 : x49.toInt ≠ x51.toInt) => ?_) (fun (c52 : ¬ (x49.toInt ≠ x51.toInt)) => ?_)
    · skip
      refine tt_aload_n (pc := 17) dX6_noteComes_17 (.tail _ (.head _)) ?_
      refine tw_getr (pc := 18) dX6_noteComes_18 flX6_185 hw ta1 (by decide) rfl (fun f53 q54 ef53 gf53 tq54 => ?_)
      refine tt_aload_n (pc := 21) dX6_noteComes_21 (.tail _ (.tail _ (.tail _ (.head _)))) ?_
      refine tt_get (pc := 22) dX6_noteComes_22 flX6_284 ef48 gf48 ?_
      refine tw_aldn (pc := 25) dX6_noteComes_25 hw tq54 rfl (by decide) (by omega) (by omega) (fun f55 o56 ef55 gf55 to56 => ?_)
      refine tt_astore (pc := 26) dX6_noteComes_26 (by decide) ?_
      show TT _ _ _ _ _ _ _ [(4, .inr o56), (0, .inr (some a0)), (1, .inr (some a1)), (2, .inl a2), (3, .inr (some q47))] _ _
      refine tt_aload (pc := 28) dX6_noteComes_28 (.head _) ?_
      refine tt_ifnull (tgt := 45) (pc := 30) dX6_noteComes_30 (by decide) (fun z57 => ?_) (fun q58 z57 => ?_)
      · subst z57
        refine tt_loc [(0, .inr (some a0)), (1, .inr (some a1)), (2, .inl a2), (3, .inr (some q47))] (List.forall_mem_cons.mpr ⟨(.tail _ (.head _)), List.forall_mem_cons.mpr ⟨(.tail _ (.tail _ (.head _))), List.forall_mem_cons.mpr ⟨(.tail _ (.tail _ (.tail _ (.head _)))), List.forall_mem_cons.mpr ⟨(.tail _ (.tail _ (.tail _ (.tail _ (.head _))))), fun _ z => absurd z List.not_mem_nil⟩⟩⟩⟩) ?_
        exact B45 h hw hf q47 tq47
      · have tq58 := to56 q58 z57
        subst z57
        refine tt_aload_n (pc := 33) dX6_noteComes_33 (.tail _ (.tail _ (.tail _ (.tail _ (.head _))))) ?_
        refine tw_geti (pc := 34) dX6_noteComes_34 flX6_189 hw tq47 (by decide) rfl (fun f59 x60 ef59 gf59 lx60 ux60 => ?_)
        refine tt_aload (pc := 37) dX6_noteComes_37 (.head _) ?_
        refine tw_geti (pc := 39) dX6_noteComes_39 flX6_189 hw tq58 (by decide) rfl (fun f61 x62 ef61 gf61 lx62 ux62 => ?_)
        refine tw_icmp (tgt := 67) (pc := 42) dX6_noteComes_42 (by decide) (fun (c63 : x60.toInt ≤ x62.toInt) => ?_) (fun (c63 : ¬ (x60.toInt ≤ x62.toInt)) => ?_)
        · skip
          refine tt_aload_n (pc := 67) dX6_noteComes_67 (.tail _ (.tail _ (.tail _ (.tail _ (.head _))))) ?_
          refine tt_get (pc := 68) dX6_noteComes_68 flX6_189 ef59 gf59 ?_
          refine tt_aload (pc := 71) dX6_noteComes_71 (.head _) ?_
          refine tt_get (pc := 73) dX6_noteComes_73 flX6_189 ef61 gf61 ?_
          refine tw_icmp (tgt := 95) (pc := 76) dX6_noteComes_76 (by decide) (fun (c64 : x62.toInt ≤ x60.toInt) => ?_) (fun (c64 : ¬ (x62.toInt ≤ x60.toInt)) => ?_)
          · skip
            refine tt_loc [] (fun _ z => absurd z List.not_mem_nil) ?_
            exact B95 h hw hf
          · skip
            refine tt_aload_n (pc := 79) dX6_noteComes_79 (.tail _ (.head _)) ?_
            refine tt_aload_n (pc := 80) dX6_noteComes_80 (.tail _ (.tail _ (.head _))) ?_
            refine tt_iload_n (pc := 81) dX6_noteComes_81 (.tail _ (.tail _ (.tail _ (.head _)))) ?_
            refine tt_aload_n (pc := 82) dX6_noteComes_82 (.tail _ (.head _)) ?_
            refine tw_getr (pc := 83) dX6_noteComes_83 flX6_35 hw ta0 (by decide) rfl (fun f65 q66 ef65 gf65 tq66 => ?_)
            refine tt_aload (pc := 86) dX6_noteComes_86 (.head _) ?_
            refine tw_callV (kc := 0) (ks := 0) (mc := 0) (ms := 0) (as := [.inr (some q58)]) (st := [.inl a2, .inr (some a1), .inr (some a0)]) (pc := 88) hw tq66 (by decide) dX6_noteComes_88 lkX6_265 imX1_asNote seX1_asNote rfl rfl (by decide) (by decide) (Nat.le_of_ble_eq_true rfl) (g_X1_asNote hN2 hN8 hp0 hp64 hw q66 tq66 q58 tq58) (fun rv h67 qh67 => ?_)
            obtain ⟨wh67, fh67, q68, rfl, tq68⟩ := qh67
            have hfh67 := hf.tr fh67
            show TT _ _ _ _ _ _ _ _ [.inr (some q68), .inl a2, .inr (some a1), .inr (some a0)] _
            refine tw_callV (kc := 0) (ks := 0) (mc := 0) (ms := 0) (as := [.inr (some a1), .inl a2, .inr (some q68)]) (st := []) (pc := 91) wh67 ta0 (by decide) dX6_noteComes_91 lkX6_276 imX6_put seX6_put rfl rfl (by decide) (by decide) (Nat.le_of_ble_eq_true rfl) (g_X6_put hN2 hN8 hp0 hp64 wh67 a0 ta0 a1 ta1 a2 (by omega) (by omega) q68 tq68) (fun rv h69 qh69 => ?_)
            obtain ⟨wh69, fh69, x70, rfl, lx70, ux70⟩ := qh69
            have hfh69 := hfh67.tr fh69
            show TT _ _ _ _ _ _ _ _ [.inl x70] _
            refine tt_pop (pc := 94) dX6_noteComes_94 ?_
            refine tt_loc [] (fun _ z => absurd z List.not_mem_nil) ?_
            exact B95 h69 wh69 hfh69
        · skip
          refine tt_loc [(0, .inr (some a0)), (1, .inr (some a1)), (2, .inl a2), (3, .inr (some q47))] (List.forall_mem_cons.mpr ⟨(.tail _ (.head _)), List.forall_mem_cons.mpr ⟨(.tail _ (.tail _ (.head _))), List.forall_mem_cons.mpr ⟨(.tail _ (.tail _ (.tail _ (.head _)))), List.forall_mem_cons.mpr ⟨(.tail _ (.tail _ (.tail _ (.tail _ (.head _))))), fun _ z => absurd z List.not_mem_nil⟩⟩⟩⟩) ?_
          exact B45 h hw hf q47 tq47
    · skip
      refine tt_loc [] (fun _ z => absurd z List.not_mem_nil) ?_
      exact B15 h hw hf
abbrev mX6_mappingComes : tM := (RX6, cX6_mappingComes, 5, 2, 45, false)
set_option maxHeartbeats 4000000 in
theorem g_X6_mappingComes {l : Launch} {D : va_G} {N : Nat} {pk : Int} {τ : List Nat} (hN2 : 2 ≤ N) (hN8 : N ≤ 8) (hp0 : 0 ≤ pk) (hp64 : pk ≤ 64) {h : List tC} (hw : WT N pk τ h) (a0 : Nat) (ta0 : τ[a0]? = some 6) (a1 : Nat) (ta1 : τ[a1]? = some 4) (a2 : Int32) (la2 : 0 ≤ a2.toInt) (ua2 : a2.toInt ≤ 11) (a3 : Nat) (ta3 : τ[a3]? = some 1) (k3 : ∀ (fs : List tV) (x : Int32), h[a3]? = some (.inr (.inr (1, fs))) → fs[0]? = some (.inl x) → 1 ≤ x.toInt ∧ x.toInt ≤ 3) : TMc l D yX6_mappingComes cX6_mappingComes 5 none 2 45 0 0 [.inr (some a0), .inr (some a1), .inl a2, .inr (some a3)] h (fun rv h' => WT N pk τ h' ∧ Fr PX τ h h' ∧ rv = none) := by
  refine tmc_of false rfl (by decide) (Nat.le_of_ble_eq_true rfl) ?_
  suffices HQ : ∀ Q0, Q0 = tRt cX6_mappingComes none (fun rv h' => WT N pk τ h' ∧ Fr PX τ h h' ∧ rv = none) → TT l D mX6_mappingComes Q0 0 0 0 [(0, .inr (some a0)), (1, .inr (some a1)), (2, .inl a2), (3, .inr (some a3))] [] h from HQ _ rfl
  intro Q0 hQ
  have hf : Fr PX τ h h := Fr.rf
  have B78 : ∀ (hb : List tC) (hwb : WT N pk τ hb) (hfb : Fr PX τ h hb), TT l D mX6_mappingComes Q0 0 0 78 [] [] hb := by
    intro hb hwb hfb
    refine tt_stop ?_
    rw [hQ]
    exact Or.inl ⟨dX6_mappingComes_78, rfl, rfl, hwb, hfb, rfl⟩
  refine tt_aload_n (pc := 0) dX6_mappingComes_0 (.tail _ (.tail _ (.tail _ (.head _)))) ?_
  refine tw_subj7 (pc := 1) dX6_mappingComes_1 flX6_176 hw ta3 (fun fs8 x8 e8 g8 => by have kq : 1 ≤ x8.toInt ∧ x8.toInt ≤ 3 := k3 fs8 x8 e8 g8; omega) (fun f38 x39 ef38 gf38 lx39 ux39 => ?_)
  refine tt_istore (pc := 4) dX6_mappingComes_4 (by decide) ?_
  show TT _ _ _ _ _ _ _ [(4, .inl x39), (0, .inr (some a0)), (1, .inr (some a1)), (2, .inl a2), (3, .inr (some a3))] _ _
  refine tt_aload_n (pc := 6) dX6_mappingComes_6 (.tail _ (.tail _ (.tail _ (.tail _ (.head _))))) ?_
  refine tw_geti (pc := 7) dX6_mappingComes_7 flX6_182 hw ta3 (by decide) rfl (fun f40 x41 ef40 gf40 lx41 ux41 => ?_)
  refine tw_iconst (pc := 10) dX6_mappingComes_10 (by decide) (fun x42 ex42 => ?_)
  refine tt_aload_n (pc := 11) dX6_mappingComes_11 (.tail _ (.tail _ (.head _))) ?_
  refine tw_geti (pc := 12) dX6_mappingComes_12 flX6_249 hw ta1 (by decide) rfl (fun f43 x44 ef43 gf43 lx44 ux44 => ?_)
  refine tt_ishl (pc := 15) dX6_mappingComes_15 ?_
  refine tw_any (fun x45 => ?_)
  have bx45 := i_ty x45
  refine tt_iand (pc := 16) dX6_mappingComes_16 ?_
  refine tw_any (fun x46 => ?_)
  have bx46 := i_ty x46
  refine tw_if (tgt := 52) (pc := 17) dX6_mappingComes_17 (by decide) (fun (c47 : x46.toInt = 0) => ?_) (fun (c47 : ¬ (x46.toInt = 0)) => ?_)
  · skip
    refine tt_aload_n (pc := 52) dX6_mappingComes_52 (.tail _ (.tail _ (.head _))) ?_
    refine tw_getr (pc := 53) dX6_mappingComes_53 flX6_213 hw ta1 (by decide) rfl (fun f48 q49 ef48 gf48 tq49 => ?_)
    refine tt_iload (pc := 56) dX6_mappingComes_56 (.head _) ?_
    refine tw_ald (pc := 58) dX6_mappingComes_58 hw tq49 rfl (by decide) (by omega) (by omega) (fun f50 q51 ef50 gf50 tq51 => ?_)
    refine tt_iload_n (pc := 59) dX6_mappingComes_59 (.tail _ (.tail _ (.tail _ (.head _)))) ?_
    refine tt_aload_n (pc := 60) dX6_mappingComes_60 (.tail _ (.tail _ (.tail _ (.tail _ (.head _))))) ?_
    refine tw_geti (pc := 61) dX6_mappingComes_61 flX6_179 hw ta3 (by decide) rfl (fun f52 x53 ef52 gf52 lx53 ux53 => ?_)
    refine tw_ist (P := PX) (pc := 64) dX6_mappingComes_64 hw tq51 rfl (by omega) (by omega) (by omega) (by omega) (by decide) (fun f54 h55 eh55 gh55 kh55 wh55 fh55 => ?_)
    have hfh55 := hf.tr fh55
    refine tt_aload_n (pc := 65) dX6_mappingComes_65 (.tail _ (.tail _ (.head _))) ?_
    refine tw_getr (pc := 66) dX6_mappingComes_66 flX6_220 wh55 ta1 (by decide) rfl (fun f56 q57 ef56 gf56 tq57 => ?_)
    refine tt_iload (pc := 69) dX6_mappingComes_69 (.head _) ?_
    refine tw_ald (pc := 71) dX6_mappingComes_71 wh55 tq57 rfl (by decide) (by omega) (by omega) (fun f58 q59 ef58 gf58 tq59 => ?_)
    refine tt_iload_n (pc := 72) dX6_mappingComes_72 (.tail _ (.tail _ (.tail _ (.head _)))) ?_
    refine tt_aload_n (pc := 73) dX6_mappingComes_73 (.tail _ (.tail _ (.tail _ (.tail _ (.head _))))) ?_
    refine tw_geti (pc := 74) dX6_mappingComes_74 flX6_182 wh55 ta3 (by decide) rfl (fun f60 x61 ef60 gf60 lx61 ux61 => ?_)
    refine tw_ist (P := PX) (pc := 77) dX6_mappingComes_77 wh55 tq59 rfl (by omega) (by omega) (by omega) (by omega) (by decide) (fun f62 h63 eh63 gh63 kh63 wh63 fh63 => ?_)
    have hfh63 := hfh55.tr fh63
    refine tt_loc [] (fun _ z => absurd z List.not_mem_nil) ?_
    exact B78 h63 wh63 hfh63
  · skip
    refine tt_aload_n (pc := 20) dX6_mappingComes_20 (.tail _ (.head _)) ?_
    refine tt_aload_n (pc := 21) dX6_mappingComes_21 (.tail _ (.tail _ (.head _))) ?_
    refine tt_iload_n (pc := 22) dX6_mappingComes_22 (.tail _ (.tail _ (.tail _ (.head _)))) ?_
    refine tt_aload_n (pc := 23) dX6_mappingComes_23 (.tail _ (.head _)) ?_
    refine tw_getr (pc := 24) dX6_mappingComes_24 flX6_35 hw ta0 (by decide) rfl (fun f64 q65 ef64 gf64 tq65 => ?_)
    refine tw_iconst (pc := 27) dX6_mappingComes_27 (by decide) (fun x66 ex66 => ?_)
    refine tt_iload (pc := 28) dX6_mappingComes_28 (.head _) ?_
    refine tt_aload_n (pc := 30) dX6_mappingComes_30 (.tail _ (.tail _ (.tail _ (.tail _ (.head _))))) ?_
    refine tw_geti (pc := 31) dX6_mappingComes_31 flX6_179 hw ta3 (by decide) rfl (fun f67 x68 ef67 gf67 lx68 ux68 => ?_)
    refine tw_iconst (pc := 34) dX6_mappingComes_34 (by decide) (fun x69 ex69 => ?_)
    refine tw_callV (kc := 0) (ks := 0) (mc := 0) (ms := 0) (as := [.inl x66, .inl x39, .inl x68, .inl x69]) (st := [.inl a2, .inr (some a1), .inr (some a0)]) (pc := 35) hw tq65 (by decide) dX6_mappingComes_35 lkX6_280 imX1_as seX1_as rfl rfl (by decide) (by decide) (Nat.le_of_ble_eq_true rfl) (g_X1_asA hN2 hN8 hp0 hp64 hw q65 tq65 x66 (by omega) (by omega) x39 (by omega) (by omega) x68 x69) (fun rv h70 qh70 => ?_)
    obtain ⟨wh70, fh70, q71, rfl, tq71⟩ := qh70
    have hfh70 := hf.tr fh70
    show TT _ _ _ _ _ _ _ _ [.inr (some q71), .inl a2, .inr (some a1), .inr (some a0)] _
    refine tw_callV (kc := 0) (ks := 0) (mc := 0) (ms := 0) (as := [.inr (some a1), .inl a2, .inr (some q71)]) (st := []) (pc := 38) wh70 ta0 (by decide) dX6_mappingComes_38 lkX6_276 imX6_put seX6_put rfl rfl (by decide) (by decide) (Nat.le_of_ble_eq_true rfl) (g_X6_put hN2 hN8 hp0 hp64 wh70 a0 ta0 a1 ta1 a2 (by omega) (by omega) q71 tq71) (fun rv h72 qh72 => ?_)
    obtain ⟨wh72, fh72, x73, rfl, lx73, ux73⟩ := qh72
    have hfh72 := hfh70.tr fh72
    show TT _ _ _ _ _ _ _ _ [.inl x73] _
    refine tt_pop (pc := 41) dX6_mappingComes_41 ?_
    refine tt_aload_n (pc := 42) dX6_mappingComes_42 (.tail _ (.tail _ (.head _))) ?_
    refine tt_iload (pc := 43) dX6_mappingComes_43 (.head _) ?_
    refine tt_iload_n (pc := 45) dX6_mappingComes_45 (.tail _ (.tail _ (.tail _ (.head _)))) ?_
    refine tw_callV (kc := 0) (ks := 0) (mc := 0) (ms := 0) (as := [.inl x39, .inl a2]) (st := []) (pc := 46) wh72 ta1 (by decide) dX6_mappingComes_46 lkX6_342 imX4_forgetMapping seX4_forgetMapping rfl rfl (by decide) (by decide) (Nat.le_of_ble_eq_true rfl) (g_X4_forgetMapping hN2 hN8 hp0 hp64 wh72 a1 ta1 x39 (by omega) (by omega) a2 (by omega) (by omega)) (fun rv h74 qh74 => ?_)
    obtain ⟨wh74, fh74, rfl⟩ := qh74
    have hfh74 := hfh72.tr fh74
    show TT _ _ _ _ _ _ _ _ [] _
    refine tt_goto (tgt := 78) (pc := 49) dX6_mappingComes_49 (by decide) ?_
    refine tt_loc [] (fun _ z => absurd z List.not_mem_nil) ?_
    exact B78 h74 wh74 hfh74
abbrev mX6_withdrawComes : tM := (RX6, cX6_withdrawComes, 5, 2, 45, false)
set_option maxHeartbeats 4000000 in
theorem g_X6_withdrawComes {l : Launch} {D : va_G} {N : Nat} {pk : Int} {τ : List Nat} (hN2 : 2 ≤ N) (hN8 : N ≤ 8) (hp0 : 0 ≤ pk) (hp64 : pk ≤ 64) {h : List tC} (hw : WT N pk τ h) (a0 : Nat) (ta0 : τ[a0]? = some 6) (a1 : Nat) (ta1 : τ[a1]? = some 4) (a2 : Int32) (la2 : 0 ≤ a2.toInt) (ua2 : a2.toInt ≤ 11) (a3 : Nat) (ta3 : τ[a3]? = some 1) (k3 : ∀ (fs : List tV) (x : Int32), h[a3]? = some (.inr (.inr (1, fs))) → fs[0]? = some (.inl x) → 1 ≤ x.toInt ∧ x.toInt ≤ 3) : TMc l D yX6_withdrawComes cX6_withdrawComes 5 none 2 45 0 0 [.inr (some a0), .inr (some a1), .inl a2, .inr (some a3)] h (fun rv h' => WT N pk τ h' ∧ Fr PX τ h h' ∧ rv = none) := by
  refine tmc_of false rfl (by decide) (Nat.le_of_ble_eq_true rfl) ?_
  suffices HQ : ∀ Q0, Q0 = tRt cX6_withdrawComes none (fun rv h' => WT N pk τ h' ∧ Fr PX τ h h' ∧ rv = none) → TT l D mX6_withdrawComes Q0 0 0 0 [(0, .inr (some a0)), (1, .inr (some a1)), (2, .inl a2), (3, .inr (some a3))] [] h from HQ _ rfl
  intro Q0 hQ
  have hf : Fr PX τ h h := Fr.rf
  have B29 : ∀ (hb : List tC) (hwb : WT N pk τ hb) (hfb : Fr PX τ h hb) (x24 : Int32) (lx24 : 0 ≤ x24.toInt) (ux24 : x24.toInt ≤ 7), TT l D mX6_withdrawComes Q0 0 0 29 [(0, .inr (some a0)), (1, .inr (some a1)), (2, .inl a2), (3, .inr (some a3)), (4, .inl x24)] [] hb := by
    intro hb hwb hfb x24 lx24 ux24
    refine tt_aload_n (pc := 29) dX6_withdrawComes_29 (.head _) ?_
    refine tt_aload_n (pc := 30) dX6_withdrawComes_30 (.tail _ (.head _)) ?_
    refine tt_iload_n (pc := 31) dX6_withdrawComes_31 (.tail _ (.tail _ (.head _))) ?_
    refine tt_aload_n (pc := 32) dX6_withdrawComes_32 (.head _) ?_
    refine tw_getr (pc := 33) dX6_withdrawComes_33 flX6_35 hwb ta0 (by decide) rfl (fun f25 q26 ef25 gf25 tq26 => ?_)
    refine tw_iconst (pc := 36) dX6_withdrawComes_36 (by decide) (fun x27 ex27 => ?_)
    refine tt_iload (pc := 37) dX6_withdrawComes_37 (.tail _ (.tail _ (.tail _ (.tail _ (.head _))))) ?_
    refine tt_aload_n (pc := 39) dX6_withdrawComes_39 (.tail _ (.tail _ (.tail _ (.head _)))) ?_
    refine tw_geti (pc := 40) dX6_withdrawComes_40 flX6_179 hwb ta3 (by decide) rfl (fun f28 x29 ef28 gf28 lx29 ux29 => ?_)
    refine tw_iconst (pc := 43) dX6_withdrawComes_43 (by decide) (fun x30 ex30 => ?_)
    refine tw_callV (kc := 0) (ks := 0) (mc := 0) (ms := 0) (as := [.inl x27, .inl x24, .inl x29, .inl x30]) (st := [.inl a2, .inr (some a1), .inr (some a0)]) (pc := 44) hwb tq26 (by decide) dX6_withdrawComes_44 lkX6_280 imX1_as seX1_as rfl rfl (by decide) (by decide) (Nat.le_of_ble_eq_true rfl) (g_X1_asA hN2 hN8 hp0 hp64 hwb q26 tq26 x27 (by omega) (by omega) x24 (by omega) (by omega) x29 x30) (fun rv h31 qh31 => ?_)
    obtain ⟨wh31, fh31, q32, rfl, tq32⟩ := qh31
    have hfh31 := hfb.tr fh31
    show TT _ _ _ _ _ _ _ _ [.inr (some q32), .inl a2, .inr (some a1), .inr (some a0)] _
    refine tw_callV (kc := 0) (ks := 0) (mc := 0) (ms := 0) (as := [.inr (some a1), .inl a2, .inr (some q32)]) (st := []) (pc := 47) wh31 ta0 (by decide) dX6_withdrawComes_47 lkX6_276 imX6_put seX6_put rfl rfl (by decide) (by decide) (Nat.le_of_ble_eq_true rfl) (g_X6_put hN2 hN8 hp0 hp64 wh31 a0 ta0 a1 ta1 a2 (by omega) (by omega) q32 tq32) (fun rv h33 qh33 => ?_)
    obtain ⟨wh33, fh33, x34, rfl, lx34, ux34⟩ := qh33
    have hfh33 := hfh31.tr fh33
    show TT _ _ _ _ _ _ _ _ [.inl x34] _
    refine tt_pop (pc := 50) dX6_withdrawComes_50 ?_
    refine tt_stop ?_
    rw [hQ]
    exact Or.inl ⟨dX6_withdrawComes_51, rfl, rfl, wh33, hfh33, rfl⟩
  refine tt_aload_n (pc := 0) dX6_withdrawComes_0 (.tail _ (.tail _ (.tail _ (.head _)))) ?_
  refine tw_subj7 (pc := 1) dX6_withdrawComes_1 flX6_176 hw ta3 (fun fs8 x8 e8 g8 => by have kq : 1 ≤ x8.toInt ∧ x8.toInt ≤ 3 := k3 fs8 x8 e8 g8; omega) (fun f35 x36 ef35 gf35 lx36 ux36 => ?_)
  refine tt_istore (pc := 4) dX6_withdrawComes_4 (by decide) ?_
  show TT _ _ _ _ _ _ _ [(4, .inl x36), (0, .inr (some a0)), (1, .inr (some a1)), (2, .inl a2), (3, .inr (some a3))] _ _
  refine tt_aload_n (pc := 6) dX6_withdrawComes_6 (.tail _ (.tail _ (.head _))) ?_
  refine tw_getr (pc := 7) dX6_withdrawComes_7 flX6_213 hw ta1 (by decide) rfl (fun f37 q38 ef37 gf37 tq38 => ?_)
  refine tt_iload (pc := 10) dX6_withdrawComes_10 (.head _) ?_
  refine tw_ald (pc := 12) dX6_withdrawComes_12 hw tq38 rfl (by decide) (by omega) (by omega) (fun f39 q40 ef39 gf39 tq40 => ?_)
  refine tt_iload_n (pc := 13) dX6_withdrawComes_13 (.tail _ (.tail _ (.tail _ (.head _)))) ?_
  refine tw_ild (pc := 14) dX6_withdrawComes_14 hw tq40 rfl (by omega) (by omega) (fun f42 x41 ef42 gf42 lx41 ux41 => ?_)
  refine tt_aload_n (pc := 15) dX6_withdrawComes_15 (.tail _ (.tail _ (.tail _ (.tail _ (.head _))))) ?_
  refine tw_geti (pc := 16) dX6_withdrawComes_16 flX6_179 hw ta3 (by decide) rfl (fun f43 x44 ef43 gf43 lx44 ux44 => ?_)
  refine tw_icmp (tgt := 29) (pc := 19) dX6_withdrawComes_19 (by decide) (fun (c45 : x41.toInt ≠ x44.toInt) => ?_) (fun (c45 : ¬ (x41.toInt ≠ x44.toInt)) => ?_)
  · skip
    refine tt_loc [(0, .inr (some a0)), (1, .inr (some a1)), (2, .inl a2), (3, .inr (some a3)), (4, .inl x36)] (List.forall_mem_cons.mpr ⟨(.tail _ (.head _)), List.forall_mem_cons.mpr ⟨(.tail _ (.tail _ (.head _))), List.forall_mem_cons.mpr ⟨(.tail _ (.tail _ (.tail _ (.head _)))), List.forall_mem_cons.mpr ⟨(.tail _ (.tail _ (.tail _ (.tail _ (.head _))))), List.forall_mem_cons.mpr ⟨(.head _), fun _ z => absurd z List.not_mem_nil⟩⟩⟩⟩⟩) ?_
    exact B29 h hw hf x36 (by omega) (by omega)
  · skip
    refine tt_aload_n (pc := 22) dX6_withdrawComes_22 (.tail _ (.tail _ (.head _))) ?_
    refine tt_iload (pc := 23) dX6_withdrawComes_23 (.head _) ?_
    refine tt_iload_n (pc := 25) dX6_withdrawComes_25 (.tail _ (.tail _ (.tail _ (.head _)))) ?_
    refine tw_callV (kc := 0) (ks := 0) (mc := 0) (ms := 0) (as := [.inl x36, .inl a2]) (st := []) (pc := 26) hw ta1 (by decide) dX6_withdrawComes_26 lkX6_342 imX4_forgetMapping seX4_forgetMapping rfl rfl (by decide) (by decide) (Nat.le_of_ble_eq_true rfl) (g_X4_forgetMapping hN2 hN8 hp0 hp64 hw a1 ta1 x36 (by omega) (by omega) a2 (by omega) (by omega)) (fun rv h46 qh46 => ?_)
    obtain ⟨wh46, fh46, rfl⟩ := qh46
    have hfh46 := hf.tr fh46
    show TT _ _ _ _ _ _ _ _ [] _
    refine tt_loc [(0, .inr (some a0)), (1, .inr (some a1)), (2, .inl a2), (3, .inr (some a3)), (4, .inl x36)] (List.forall_mem_cons.mpr ⟨(.tail _ (.head _)), List.forall_mem_cons.mpr ⟨(.tail _ (.tail _ (.head _))), List.forall_mem_cons.mpr ⟨(.tail _ (.tail _ (.tail _ (.head _)))), List.forall_mem_cons.mpr ⟨(.tail _ (.tail _ (.tail _ (.tail _ (.head _))))), List.forall_mem_cons.mpr ⟨(.head _), fun _ z => absurd z List.not_mem_nil⟩⟩⟩⟩⟩) ?_
    exact B29 h46 wh46 hfh46 x36 (by omega) (by omega)
abbrev mX6_pathNow : tM := (RX6, cX6_pathNow, 5, 2, 47, false)
set_option maxHeartbeats 4000000 in
theorem g_X6_pathNow {l : Launch} {D : va_G} {N : Nat} {pk : Int} {τ : List Nat} (hN2 : 2 ≤ N) (hN8 : N ≤ 8) (hp0 : 0 ≤ pk) (hp64 : pk ≤ 64) {h : List tC} (hw : WT N pk τ h) (a0 : Nat) (ta0 : τ[a0]? = some 6) (a1 : Nat) (ta1 : τ[a1]? = some 4) (a2 : Int32) (la2 : 0 ≤ a2.toInt) (ua2 : a2.toInt ≤ 7) : TMc l D yX6_pathNow cX6_pathNow 5 (some .int) 2 47 0 0 [.inr (some a0), .inr (some a1), .inl a2] h (fun rv h' => h = h' ∧ ∃ x : Int32, rv = some (.inl x) ∧ -2147483648 ≤ x.toInt ∧ x.toInt ≤ 2147483647) := by
  refine tmc_of false rfl (by decide) (Nat.le_of_ble_eq_true rfl) ?_
  suffices HQ : ∀ Q0, Q0 = tRt cX6_pathNow (some .int) (fun rv h' => h = h' ∧ ∃ x : Int32, rv = some (.inl x) ∧ -2147483648 ≤ x.toInt ∧ x.toInt ≤ 2147483647) → TT l D mX6_pathNow Q0 0 0 0 [(0, .inr (some a0)), (1, .inr (some a1)), (2, .inl a2)] [] h from HQ _ rfl
  intro Q0 hQ
  have B55 : TT l D mX6_pathNow Q0 0 0 55 [] [] h := by
    refine tw_iconst (pc := 55) dX6_pathNow_55 (by decide) (fun x33 ex33 => ?_)
    refine tt_stop ?_
    rw [hQ]
    exact Or.inr (Or.inl ⟨x33, dX6_pathNow_56, rfl, Or.inl rfl, rfl, x33, rfl, by omega, by omega⟩)
  refine tt_aload_n (pc := 0) dX6_pathNow_0 (.tail _ (.head _)) ?_
  refine tt_iload_n (pc := 1) dX6_pathNow_1 (.tail _ (.tail _ (.head _))) ?_
  refine tw_callV (kc := 0) (ks := 0) (mc := 0) (ms := 0) (as := [.inl a2]) (st := []) (pc := 2) hw ta1 (by decide) dX6_pathNow_2 lkX6_203 imX4_egress seX4_egress rfl rfl (by decide) (by decide) (Nat.le_of_ble_eq_true rfl) (g_X4_egress hN2 hN8 hp0 hp64 hw a1 ta1 a2) (fun rv h34 qh34 => ?_)
  obtain ⟨rfl, x35, rfl, lx35, ux35⟩ := qh34
  show TT _ _ _ _ _ _ _ _ [.inl x35] _
  refine tt_istore_n (pc := 5) dX6_pathNow_5 (by decide) ?_
  show TT _ _ _ _ _ _ _ [(3, .inl x35), (0, .inr (some a0)), (1, .inr (some a1)), (2, .inl a2)] _ _
  refine tt_iload_n (pc := 6) dX6_pathNow_6 (.head _) ?_
  refine tw_iconst (pc := 7) dX6_pathNow_7 (by decide) (fun x36 ex36 => ?_)
  refine tw_icmp (tgt := 13) (pc := 8) dX6_pathNow_8 (by decide) (fun (c37 : x35.toInt ≠ x36.toInt) => ?_) (fun (c37 : ¬ (x35.toInt ≠ x36.toInt)) => ?_)
  · skip
    refine tt_iload_n (pc := 13) dX6_pathNow_13 (.head _) ?_
    refine tt_aload_n (pc := 14) dX6_pathNow_14 (.tail _ (.tail _ (.head _))) ?_
    refine tw_geti (pc := 15) dX6_pathNow_15 flX6_249 hw ta1 (by decide) rfl (fun f38 x39 ef38 gf38 lx39 ux39 => ?_)
    refine tw_icmp (tgt := 28) (pc := 18) dX6_pathNow_18 (by decide) (fun (c40 : x35.toInt ≠ x39.toInt) => ?_) (fun (c40 : ¬ (x35.toInt ≠ x39.toInt)) => ?_)
    · skip
      refine tt_aload_n (pc := 28) dX6_pathNow_28 (.tail _ (.head _)) ?_
      refine tt_aload_n (pc := 29) dX6_pathNow_29 (.tail _ (.tail _ (.head _))) ?_
      refine tt_iload_n (pc := 30) dX6_pathNow_30 (.head _) ?_
      refine tw_callV (kc := 0) (ks := 0) (mc := 0) (ms := 0) (as := [.inr (some a1), .inl x35]) (st := []) (pc := 31) hw ta0 (by decide) dX6_pathNow_31 lkX6_199 imX6_hop seX6_hop rfl rfl (by decide) (by decide) (Nat.le_of_ble_eq_true rfl) (g_X6_hop hN2 hN8 hp0 hp64 hw a0 ta0 a1 ta1 x35 (by omega) (by omega)) (fun rv h41 qh41 => ?_)
      obtain ⟨rfl, x42, rfl, lx42, ux42⟩ := qh41
      show TT _ _ _ _ _ _ _ _ [.inl x42] _
      refine tt_istore (pc := 34) dX6_pathNow_34 (by decide) ?_
      show TT _ _ _ _ _ _ _ [(4, .inl x42), (3, .inl x35), (0, .inr (some a0)), (1, .inr (some a1)), (2, .inl a2)] _ _
      refine tt_iload (pc := 36) dX6_pathNow_36 (.head _) ?_
      refine tw_iconst (pc := 38) dX6_pathNow_38 (by decide) (fun x43 ex43 => ?_)
      refine tw_icmp (tgt := 55) (pc := 39) dX6_pathNow_39 (by decide) (fun (c44 : x42.toInt = x43.toInt) => ?_) (fun (c44 : ¬ (x42.toInt = x43.toInt)) => ?_)
      · skip
        refine tt_loc [] (fun _ z => absurd z List.not_mem_nil) ?_
        exact B55 
      · skip
        refine tt_aload_n (pc := 42) dX6_pathNow_42 (.tail _ (.tail _ (.tail _ (.head _)))) ?_
        refine tw_getr (pc := 43) dX6_pathNow_43 flX6_213 hw ta1 (by decide) rfl (fun f45 q46 ef45 gf45 tq46 => ?_)
        refine tt_iload_n (pc := 46) dX6_pathNow_46 (.tail _ (.tail _ (.tail _ (.tail _ (.head _))))) ?_
        refine tw_ald (pc := 47) dX6_pathNow_47 hw tq46 rfl (by decide) (by omega) (by omega) (fun f47 q48 ef47 gf47 tq48 => ?_)
        refine tt_iload (pc := 48) dX6_pathNow_48 (.head _) ?_
        refine tw_ild (pc := 50) dX6_pathNow_50 hw tq48 rfl (by omega) (by omega) (fun f50 x49 ef50 gf50 lx49 ux49 => ?_)
        refine tw_iconst (pc := 51) dX6_pathNow_51 (by decide) (fun x51 ex51 => ?_)
        refine tw_icmp (tgt := 57) (pc := 52) dX6_pathNow_52 (by decide) (fun (c52 : x49.toInt ≠ x51.toInt) => ?_) (fun (c52 : ¬ (x49.toInt ≠ x51.toInt)) => ?_)
        · skip
          refine tt_aload_n (pc := 57) dX6_pathNow_57 (.tail _ (.tail _ (.tail _ (.head _)))) ?_
          refine tw_getr (pc := 58) dX6_pathNow_58 flX6_220 hw ta1 (by decide) rfl (fun f53 q54 ef53 gf53 tq54 => ?_)
          refine tt_iload_n (pc := 61) dX6_pathNow_61 (.tail _ (.tail _ (.tail _ (.tail _ (.head _))))) ?_
          refine tw_ald (pc := 62) dX6_pathNow_62 hw tq54 rfl (by decide) (by omega) (by omega) (fun f55 q56 ef55 gf55 tq56 => ?_)
          refine tt_iload (pc := 63) dX6_pathNow_63 (.head _) ?_
          refine tw_ild (pc := 65) dX6_pathNow_65 hw tq56 rfl (by omega) (by omega) (fun f58 x57 ef58 gf58 lx57 ux57 => ?_)
          refine tw_iconst (pc := 66) dX6_pathNow_66 (by decide) (fun x59 ex59 => ?_)
          refine tt_aload_n (pc := 67) dX6_pathNow_67 (.tail _ (.tail _ (.tail _ (.head _)))) ?_
          refine tt_get (pc := 68) dX6_pathNow_68 flX6_249 ef38 gf38 ?_
          refine tt_ishl (pc := 71) dX6_pathNow_71 ?_
          refine tw_any (fun x60 => ?_)
          have bx60 := i_ty x60
          refine tt_ior (pc := 72) dX6_pathNow_72 ?_
          refine tw_any (fun x61 => ?_)
          have bx61 := i_ty x61
          refine tt_stop ?_
          rw [hQ]
          exact Or.inr (Or.inl ⟨x61, dX6_pathNow_73, rfl, Or.inl rfl, rfl, x61, rfl, by omega, by omega⟩)
        · skip
          refine tt_loc [] (fun _ z => absurd z List.not_mem_nil) ?_
          exact B55 
    · skip
      refine tw_iconst (pc := 21) dX6_pathNow_21 (by decide) (fun x62 ex62 => ?_)
      refine tt_aload_n (pc := 22) dX6_pathNow_22 (.tail _ (.tail _ (.head _))) ?_
      refine tt_get (pc := 23) dX6_pathNow_23 flX6_249 ef38 gf38 ?_
      refine tt_ishl (pc := 26) dX6_pathNow_26 ?_
      refine tw_any (fun x63 => ?_)
      have bx63 := i_ty x63
      refine tt_stop ?_
      rw [hQ]
      exact Or.inr (Or.inl ⟨x63, dX6_pathNow_27, rfl, Or.inl rfl, rfl, x63, rfl, by omega, by omega⟩)
  · skip
    refine tw_iconst (pc := 11) dX6_pathNow_11 (by decide) (fun x64 ex64 => ?_)
    refine tt_stop ?_
    rw [hQ]
    exact Or.inr (Or.inl ⟨x64, dX6_pathNow_12, rfl, Or.inl rfl, rfl, x64, rfl, by omega, by omega⟩)
abbrev mX6_checkPrefix : tM := (RX6, cX6_checkPrefix, 7, 3, 71, false)
set_option maxHeartbeats 4000000 in
theorem g_X6_checkPrefix {l : Launch} {D : va_G} {N : Nat} {pk : Int} {τ : List Nat} (hN2 : 2 ≤ N) (hN8 : N ≤ 8) (hp0 : 0 ≤ pk) (hp64 : pk ≤ 64) {h : List tC} (hw : WT N pk τ h) (a0 : Nat) (ta0 : τ[a0]? = some 6) (a1 : Nat) (ta1 : τ[a1]? = some 4) (a2 : Int32) (la2 : 0 ≤ a2.toInt) (ua2 : a2.toInt ≤ 7) : TMc l D yX6_checkPrefix cX6_checkPrefix 7 none 3 71 0 0 [.inr (some a0), .inr (some a1), .inl a2] h (fun rv h' => WT N pk τ h' ∧ Fr PX τ h h' ∧ rv = none) := by
  refine tmc_of false rfl (by decide) (Nat.le_of_ble_eq_true rfl) ?_
  suffices HQ : ∀ Q0, Q0 = tRt cX6_checkPrefix none (fun rv h' => WT N pk τ h' ∧ Fr PX τ h h' ∧ rv = none) → TT l D mX6_checkPrefix Q0 0 0 0 [(0, .inr (some a0)), (1, .inr (some a1)), (2, .inl a2)] [] h from HQ _ rfl
  intro Q0 hQ
  have hf : Fr PX τ h h := Fr.rf
  have B122 : ∀ (hb : List tC) (hwb : WT N pk τ hb) (hfb : Fr PX τ h hb), TT l D mX6_checkPrefix Q0 0 0 122 [] [] hb := by
    intro hb hwb hfb
    refine tt_stop ?_
    rw [hQ]
    exact Or.inl ⟨dX6_checkPrefix_122, rfl, rfl, hwb, hfb, rfl⟩
  have B97 : ∀ (hb : List tC) (hwb : WT N pk τ hb) (hfb : Fr PX τ h hb) (x49 : Int32) (x50 : Int32), TT l D mX6_checkPrefix Q0 0 0 97 [(0, .inr (some a0)), (1, .inr (some a1)), (2, .inl a2), (5, .inl x49), (6, .inl x50)] [] hb := by
    intro hb hwb hfb x49 x50
    have bx49 := i_ty x49
    have bx50 := i_ty x50
    refine tt_iload (pc := 97) dX6_checkPrefix_97 (.tail _ (.tail _ (.tail _ (.tail _ (.head _))))) ?_
    refine tw_iconst (pc := 99) dX6_checkPrefix_99 (by decide) (fun x51 ex51 => ?_)
    refine tw_icmp (tgt := 122) (pc := 100) dX6_checkPrefix_100 (by decide) (fun (c52 : x50.toInt = x51.toInt) => ?_) (fun (c52 : ¬ (x50.toInt = x51.toInt)) => ?_)
    · skip
      refine tt_loc [] (fun _ z => absurd z List.not_mem_nil) ?_
      exact B122 hb hwb hfb
    · skip
      refine tt_aload_n (pc := 103) dX6_checkPrefix_103 (.head _) ?_
      refine tt_aload_n (pc := 104) dX6_checkPrefix_104 (.tail _ (.head _)) ?_
      refine tt_aload_n (pc := 105) dX6_checkPrefix_105 (.head _) ?_
      refine tw_getr (pc := 106) dX6_checkPrefix_106 flX6_35 hwb ta0 (by decide) rfl (fun f53 q54 ef53 gf53 tq54 => ?_)
      refine tw_iconst (pc := 109) dX6_checkPrefix_109 (by decide) (fun x55 ex55 => ?_)
      refine tt_iload_n (pc := 110) dX6_checkPrefix_110 (.tail _ (.tail _ (.head _))) ?_
      refine tt_iload (pc := 111) dX6_checkPrefix_111 (.tail _ (.tail _ (.tail _ (.tail _ (.head _))))) ?_
      refine tt_iload (pc := 113) dX6_checkPrefix_113 (.tail _ (.tail _ (.tail _ (.head _)))) ?_
      refine tw_callV (kc := 0) (ks := 0) (mc := 0) (ms := 0) (as := [.inl x55, .inl a2, .inl x50, .inl x49]) (st := [.inr (some a1), .inr (some a0)]) (pc := 115) hwb tq54 (by decide) dX6_checkPrefix_115 lkX6_280 imX1_as seX1_as rfl rfl (by decide) (by decide) (Nat.le_of_ble_eq_true rfl) (g_X1_asA hN2 hN8 hp0 hp64 hwb q54 tq54 x55 (by omega) (by omega) a2 (by omega) (by omega) x50 x49) (fun rv h56 qh56 => ?_)
      obtain ⟨wh56, fh56, q57, rfl, tq57⟩ := qh56
      have hfh56 := hfb.tr fh56
      show TT _ _ _ _ _ _ _ _ [.inr (some q57), .inr (some a1), .inr (some a0)] _
      refine tw_iconst (pc := 118) dX6_checkPrefix_118 (by decide) (fun x58 ex58 => ?_)
      refine tw_callV (kc := 0) (ks := 0) (mc := 0) (ms := 0) (as := [.inr (some a1), .inr (some q57), .inl x58]) (st := []) (pc := 119) wh56 ta0 (by decide) dX6_checkPrefix_119 lkX6_269 imX6_sendOnAll seX6_sendOnAll rfl rfl (by decide) (by decide) (Nat.le_of_ble_eq_true rfl) (g_X6_sendOnAll hN2 hN8 hp0 hp64 wh56 a0 ta0 a1 ta1 q57 tq57 x58) (fun rv h59 qh59 => ?_)
      obtain ⟨wh59, fh59, rfl⟩ := qh59
      have hfh59 := hfh56.tr fh59
      show TT _ _ _ _ _ _ _ _ [] _
      refine tt_loc [] (fun _ z => absurd z List.not_mem_nil) ?_
      exact B122 h59 wh59 hfh59
  have B55 : ∀ (hb : List tC) (hwb : WT N pk τ hb) (hfb : Fr PX τ h hb) (x60 : Int32) (x61 : Int32) (x62 : Int32), TT l D mX6_checkPrefix Q0 0 0 55 [(0, .inr (some a0)), (1, .inr (some a1)), (2, .inl a2), (3, .inl x60), (5, .inl x61), (6, .inl x62)] [] hb := by
    intro hb hwb hfb x60 x61 x62
    have bx60 := i_ty x60
    have bx61 := i_ty x61
    have bx62 := i_ty x62
    refine tt_aload_n (pc := 55) dX6_checkPrefix_55 (.tail _ (.head _)) ?_
    refine tt_iload_n (pc := 56) dX6_checkPrefix_56 (.tail _ (.tail _ (.head _))) ?_
    refine tt_iload (pc := 57) dX6_checkPrefix_57 (.tail _ (.tail _ (.tail _ (.tail _ (.tail _ (.head _)))))) ?_
    refine tt_iload (pc := 59) dX6_checkPrefix_59 (.tail _ (.tail _ (.tail _ (.tail _ (.head _))))) ?_
    refine tw_callV (kc := 0) (ks := 0) (mc := 0) (ms := 0) (as := [.inl a2, .inl x62, .inl x61]) (st := []) (pc := 61) hwb ta1 (by decide) dX6_checkPrefix_61 lkX6_354 imX4_bind seX4_bind rfl rfl (by decide) (by decide) (Nat.le_of_ble_eq_true rfl) (g_X4_bind hN2 hN8 hp0 hp64 hwb a1 ta1 a2 (by omega) (by omega) x62 x61) (fun rv h63 qh63 => ?_)
    obtain ⟨wh63, fh63, rfl⟩ := qh63
    have hfh63 := hfb.tr fh63
    show TT _ _ _ _ _ _ _ _ [] _
    refine tt_iload_n (pc := 64) dX6_checkPrefix_64 (.tail _ (.tail _ (.tail _ (.head _)))) ?_
    refine tw_iconst (pc := 65) dX6_checkPrefix_65 (by decide) (fun x64 ex64 => ?_)
    refine tw_icmp (tgt := 97) (pc := 66) dX6_checkPrefix_66 (by decide) (fun (c65 : x60.toInt = x64.toInt) => ?_) (fun (c65 : ¬ (x60.toInt = x64.toInt)) => ?_)
    · skip
      refine tt_loc [(0, .inr (some a0)), (1, .inr (some a1)), (2, .inl a2), (5, .inl x61), (6, .inl x62)] (List.forall_mem_cons.mpr ⟨(.head _), List.forall_mem_cons.mpr ⟨(.tail _ (.head _)), List.forall_mem_cons.mpr ⟨(.tail _ (.tail _ (.head _))), List.forall_mem_cons.mpr ⟨(.tail _ (.tail _ (.tail _ (.tail _ (.head _))))), List.forall_mem_cons.mpr ⟨(.tail _ (.tail _ (.tail _ (.tail _ (.tail _ (.head _)))))), fun _ z => absurd z List.not_mem_nil⟩⟩⟩⟩⟩) ?_
      exact B97 h63 wh63 hfh63 x61 x62
    · skip
      refine tt_iload_n (pc := 69) dX6_checkPrefix_69 (.tail _ (.tail _ (.tail _ (.head _)))) ?_
      refine tt_iload (pc := 70) dX6_checkPrefix_70 (.tail _ (.tail _ (.tail _ (.tail _ (.tail _ (.head _)))))) ?_
      refine tw_icmp (tgt := 97) (pc := 72) dX6_checkPrefix_72 (by decide) (fun (c66 : x60.toInt = x62.toInt) => ?_) (fun (c66 : ¬ (x60.toInt = x62.toInt)) => ?_)
      · skip
        refine tt_loc [(0, .inr (some a0)), (1, .inr (some a1)), (2, .inl a2), (5, .inl x61), (6, .inl x62)] (List.forall_mem_cons.mpr ⟨(.head _), List.forall_mem_cons.mpr ⟨(.tail _ (.head _)), List.forall_mem_cons.mpr ⟨(.tail _ (.tail _ (.head _))), List.forall_mem_cons.mpr ⟨(.tail _ (.tail _ (.tail _ (.tail _ (.head _))))), List.forall_mem_cons.mpr ⟨(.tail _ (.tail _ (.tail _ (.tail _ (.tail _ (.head _)))))), fun _ z => absurd z List.not_mem_nil⟩⟩⟩⟩⟩) ?_
        exact B97 h63 wh63 hfh63 x61 x62
      · skip
        refine tt_aload_n (pc := 75) dX6_checkPrefix_75 (.head _) ?_
        refine tt_aload_n (pc := 76) dX6_checkPrefix_76 (.tail _ (.head _)) ?_
        refine tt_aload_n (pc := 77) dX6_checkPrefix_77 (.head _) ?_
        refine tw_getr (pc := 78) dX6_checkPrefix_78 flX6_35 wh63 ta0 (by decide) rfl (fun f67 q68 ef67 gf67 tq68 => ?_)
        refine tw_iconst (pc := 81) dX6_checkPrefix_81 (by decide) (fun x69 ex69 => ?_)
        refine tt_iload_n (pc := 82) dX6_checkPrefix_82 (.tail _ (.tail _ (.head _))) ?_
        refine tt_iload_n (pc := 83) dX6_checkPrefix_83 (.tail _ (.tail _ (.tail _ (.head _)))) ?_
        refine tw_iconst (pc := 84) dX6_checkPrefix_84 (by decide) (fun x70 ex70 => ?_)
        refine tw_callV (kc := 0) (ks := 0) (mc := 0) (ms := 0) (as := [.inl x69, .inl a2, .inl x60, .inl x70]) (st := [.inr (some a1), .inr (some a0)]) (pc := 85) wh63 tq68 (by decide) dX6_checkPrefix_85 lkX6_280 imX1_as seX1_as rfl rfl (by decide) (by decide) (Nat.le_of_ble_eq_true rfl) (g_X1_asA hN2 hN8 hp0 hp64 wh63 q68 tq68 x69 (by omega) (by omega) a2 (by omega) (by omega) x60 x70) (fun rv h71 qh71 => ?_)
        obtain ⟨wh71, fh71, q72, rfl, tq72⟩ := qh71
        have hfh71 := hfh63.tr fh71
        show TT _ _ _ _ _ _ _ _ [.inr (some q72), .inr (some a1), .inr (some a0)] _
        refine tw_iconst (pc := 88) dX6_checkPrefix_88 (by decide) (fun x73 ex73 => ?_)
        refine tw_callV (kc := 0) (ks := 0) (mc := 0) (ms := 0) (as := [.inr (some a1), .inr (some q72), .inl x73]) (st := []) (pc := 89) wh71 ta0 (by decide) dX6_checkPrefix_89 lkX6_269 imX6_sendOnAll seX6_sendOnAll rfl rfl (by decide) (by decide) (Nat.le_of_ble_eq_true rfl) (g_X6_sendOnAll hN2 hN8 hp0 hp64 wh71 a0 ta0 a1 ta1 q72 tq72 x73) (fun rv h74 qh74 => ?_)
        obtain ⟨wh74, fh74, rfl⟩ := qh74
        have hfh74 := hfh71.tr fh74
        show TT _ _ _ _ _ _ _ _ [] _
        refine tt_aload_n (pc := 92) dX6_checkPrefix_92 (.tail _ (.head _)) ?_
        refine tt_iload_n (pc := 93) dX6_checkPrefix_93 (.tail _ (.tail _ (.tail _ (.head _)))) ?_
        refine tw_callV (kc := 0) (ks := 0) (mc := 0) (ms := 0) (as := [.inl x60]) (st := []) (pc := 94) wh74 ta1 (by decide) dX6_checkPrefix_94 lkX6_357 imX4_freeIfReleased seX4_freeIfReleased rfl rfl (by decide) (by decide) (Nat.le_of_ble_eq_true rfl) (g_X4_freeIfReleased hN2 hN8 hp0 hp64 wh74 a1 ta1 x60) (fun rv h75 qh75 => ?_)
        obtain ⟨wh75, fh75, rfl⟩ := qh75
        have hfh75 := hfh74.tr fh75
        show TT _ _ _ _ _ _ _ _ [] _
        refine tt_loc [(0, .inr (some a0)), (1, .inr (some a1)), (2, .inl a2), (5, .inl x61), (6, .inl x62)] (List.forall_mem_cons.mpr ⟨(.head _), List.forall_mem_cons.mpr ⟨(.tail _ (.head _)), List.forall_mem_cons.mpr ⟨(.tail _ (.tail _ (.head _))), List.forall_mem_cons.mpr ⟨(.tail _ (.tail _ (.tail _ (.tail _ (.head _))))), List.forall_mem_cons.mpr ⟨(.tail _ (.tail _ (.tail _ (.tail _ (.tail _ (.head _)))))), fun _ z => absurd z List.not_mem_nil⟩⟩⟩⟩⟩) ?_
        exact B97 h75 wh75 hfh75 x61 x62
  have B41 : ∀ (hb : List tC) (hwb : WT N pk τ hb) (hfb : Fr PX τ h hb) (x76 : Int32) (x77 : Int32) (x78 : Int32) (x79 : Int32), TT l D mX6_checkPrefix Q0 0 0 41 [(0, .inr (some a0)), (1, .inr (some a1)), (2, .inl a2), (3, .inl x76), (4, .inl x77), (5, .inl x78), (6, .inl x79)] [] hb := by
    intro hb hwb hfb x76 x77 x78 x79
    have bx76 := i_ty x76
    have bx77 := i_ty x77
    have bx78 := i_ty x78
    have bx79 := i_ty x79
    refine tt_iload (pc := 41) dX6_checkPrefix_41 (.tail _ (.tail _ (.tail _ (.tail _ (.tail _ (.tail _ (.head _))))))) ?_
    refine tt_iload_n (pc := 43) dX6_checkPrefix_43 (.tail _ (.tail _ (.tail _ (.head _)))) ?_
    refine tw_icmp (tgt := 55) (pc := 44) dX6_checkPrefix_44 (by decide) (fun (c80 : x79.toInt ≠ x76.toInt) => ?_) (fun (c80 : ¬ (x79.toInt ≠ x76.toInt)) => ?_)
    · skip
      refine tt_loc [(0, .inr (some a0)), (1, .inr (some a1)), (2, .inl a2), (3, .inl x76), (5, .inl x78), (6, .inl x79)] (List.forall_mem_cons.mpr ⟨(.head _), List.forall_mem_cons.mpr ⟨(.tail _ (.head _)), List.forall_mem_cons.mpr ⟨(.tail _ (.tail _ (.head _))), List.forall_mem_cons.mpr ⟨(.tail _ (.tail _ (.tail _ (.head _)))), List.forall_mem_cons.mpr ⟨(.tail _ (.tail _ (.tail _ (.tail _ (.tail _ (.head _)))))), List.forall_mem_cons.mpr ⟨(.tail _ (.tail _ (.tail _ (.tail _ (.tail _ (.tail _ (.head _))))))), fun _ z => absurd z List.not_mem_nil⟩⟩⟩⟩⟩⟩) ?_
      exact B55 hb hwb hfb x76 x78 x79
    · skip
      refine tt_iload (pc := 47) dX6_checkPrefix_47 (.tail _ (.tail _ (.tail _ (.tail _ (.tail _ (.head _)))))) ?_
      refine tt_iload (pc := 49) dX6_checkPrefix_49 (.tail _ (.tail _ (.tail _ (.tail _ (.head _))))) ?_
      refine tw_icmp (tgt := 55) (pc := 51) dX6_checkPrefix_51 (by decide) (fun (c81 : x78.toInt ≠ x77.toInt) => ?_) (fun (c81 : ¬ (x78.toInt ≠ x77.toInt)) => ?_)
      · skip
        refine tt_loc [(0, .inr (some a0)), (1, .inr (some a1)), (2, .inl a2), (3, .inl x76), (5, .inl x78), (6, .inl x79)] (List.forall_mem_cons.mpr ⟨(.head _), List.forall_mem_cons.mpr ⟨(.tail _ (.head _)), List.forall_mem_cons.mpr ⟨(.tail _ (.tail _ (.head _))), List.forall_mem_cons.mpr ⟨(.tail _ (.tail _ (.tail _ (.head _)))), List.forall_mem_cons.mpr ⟨(.tail _ (.tail _ (.tail _ (.tail _ (.tail _ (.head _)))))), List.forall_mem_cons.mpr ⟨(.tail _ (.tail _ (.tail _ (.tail _ (.tail _ (.tail _ (.head _))))))), fun _ z => absurd z List.not_mem_nil⟩⟩⟩⟩⟩⟩) ?_
        exact B55 hb hwb hfb x76 x78 x79
      · skip
        refine tt_stop ?_
        rw [hQ]
        exact Or.inl ⟨dX6_checkPrefix_54, rfl, rfl, hwb, hfb, rfl⟩
  refine tt_aload_n (pc := 0) dX6_checkPrefix_0 (.tail _ (.head _)) ?_
  refine tw_getr (pc := 1) dX6_checkPrefix_1 flX6_207 hw ta1 (by decide) rfl (fun f82 q83 ef82 gf82 tq83 => ?_)
  refine tt_iload_n (pc := 4) dX6_checkPrefix_4 (.tail _ (.tail _ (.head _))) ?_
  refine tw_ild (pc := 5) dX6_checkPrefix_5 hw tq83 rfl (by omega) (by omega) (fun f85 x84 ef85 gf85 lx84 ux84 => ?_)
  refine tt_istore_n (pc := 6) dX6_checkPrefix_6 (by decide) ?_
  show TT _ _ _ _ _ _ _ [(3, .inl x84), (0, .inr (some a0)), (1, .inr (some a1)), (2, .inl a2)] _ _
  refine tt_aload_n (pc := 7) dX6_checkPrefix_7 (.tail _ (.tail _ (.head _))) ?_
  refine tw_getr (pc := 8) dX6_checkPrefix_8 flX6_210 hw ta1 (by decide) rfl (fun f86 q87 ef86 gf86 tq87 => ?_)
  refine tt_iload_n (pc := 11) dX6_checkPrefix_11 (.tail _ (.tail _ (.tail _ (.head _)))) ?_
  refine tw_ild (pc := 12) dX6_checkPrefix_12 hw tq87 rfl (by omega) (by omega) (fun f89 x88 ef89 gf89 lx88 ux88 => ?_)
  refine tt_istore (pc := 13) dX6_checkPrefix_13 (by decide) ?_
  show TT _ _ _ _ _ _ _ [(4, .inl x88), (3, .inl x84), (0, .inr (some a0)), (1, .inr (some a1)), (2, .inl a2)] _ _
  refine tt_aload_n (pc := 15) dX6_checkPrefix_15 (.tail _ (.tail _ (.head _))) ?_
  refine tt_aload_n (pc := 16) dX6_checkPrefix_16 (.tail _ (.tail _ (.tail _ (.head _)))) ?_
  refine tt_iload_n (pc := 17) dX6_checkPrefix_17 (.tail _ (.tail _ (.tail _ (.tail _ (.head _))))) ?_
  refine tw_callV (kc := 0) (ks := 0) (mc := 0) (ms := 0) (as := [.inr (some a1), .inl a2]) (st := []) (pc := 18) hw ta0 (by decide) dX6_checkPrefix_18 lkX6_348 imX6_pathNow seX6_pathNow rfl rfl (by decide) (by decide) (Nat.le_of_ble_eq_true rfl) (g_X6_pathNow hN2 hN8 hp0 hp64 hw a0 ta0 a1 ta1 a2 (by omega) (by omega)) (fun rv h90 qh90 => ?_)
  obtain ⟨rfl, x91, rfl, lx91, ux91⟩ := qh90
  show TT _ _ _ _ _ _ _ _ [.inl x91] _
  refine tt_istore (pc := 21) dX6_checkPrefix_21 (by decide) ?_
  show TT _ _ _ _ _ _ _ [(5, .inl x91), (4, .inl x88), (3, .inl x84), (0, .inr (some a0)), (1, .inr (some a1)), (2, .inl a2)] _ _
  refine tt_aload_n (pc := 23) dX6_checkPrefix_23 (.tail _ (.tail _ (.tail _ (.tail _ (.head _))))) ?_
  refine tt_iload_n (pc := 24) dX6_checkPrefix_24 (.tail _ (.tail _ (.head _))) ?_
  refine tt_iload (pc := 25) dX6_checkPrefix_25 (.head _) ?_
  refine tw_callV (kc := 0) (ks := 0) (mc := 0) (ms := 0) (as := [.inl x84, .inl x91]) (st := []) (pc := 27) hw ta1 (by decide) dX6_checkPrefix_27 lkX6_351 imX4_labelFor seX4_labelFor rfl rfl (by decide) (by decide) (Nat.le_of_ble_eq_true rfl) (g_X4_labelFor hN2 hN8 hp0 hp64 hw a1 ta1 x84 x91) (fun rv h92 qh92 => ?_)
  obtain ⟨rfl, x93, rfl, lx93, ux93⟩ := qh92
  show TT _ _ _ _ _ _ _ _ [.inl x93] _
  refine tt_istore (pc := 30) dX6_checkPrefix_30 (by decide) ?_
  show TT _ _ _ _ _ _ _ [(6, .inl x93), (5, .inl x91), (4, .inl x88), (3, .inl x84), (0, .inr (some a0)), (1, .inr (some a1)), (2, .inl a2)] _ _
  refine tt_iload (pc := 32) dX6_checkPrefix_32 (.head _) ?_
  refine tw_iconst (pc := 34) dX6_checkPrefix_34 (by decide) (fun x94 ex94 => ?_)
  refine tw_icmp (tgt := 41) (pc := 35) dX6_checkPrefix_35 (by decide) (fun (c95 : x93.toInt ≠ x94.toInt) => ?_) (fun (c95 : ¬ (x93.toInt ≠ x94.toInt)) => ?_)
  · skip
    refine tt_loc [(0, .inr (some a0)), (1, .inr (some a1)), (2, .inl a2), (3, .inl x84), (4, .inl x88), (5, .inl x91), (6, .inl x93)] (List.forall_mem_cons.mpr ⟨(.tail _ (.tail _ (.tail _ (.tail _ (.head _))))), List.forall_mem_cons.mpr ⟨(.tail _ (.tail _ (.tail _ (.tail _ (.tail _ (.head _)))))), List.forall_mem_cons.mpr ⟨(.tail _ (.tail _ (.tail _ (.tail _ (.tail _ (.tail _ (.head _))))))), List.forall_mem_cons.mpr ⟨(.tail _ (.tail _ (.tail _ (.head _)))), List.forall_mem_cons.mpr ⟨(.tail _ (.tail _ (.head _))), List.forall_mem_cons.mpr ⟨(.tail _ (.head _)), List.forall_mem_cons.mpr ⟨(.head _), fun _ z => absurd z List.not_mem_nil⟩⟩⟩⟩⟩⟩⟩) ?_
    exact B41 h hw hf x84 x88 x91 x93
  · skip
    refine tw_iconst (pc := 38) dX6_checkPrefix_38 (by decide) (fun x96 ex96 => ?_)
    refine tt_istore (pc := 39) dX6_checkPrefix_39 (by decide) ?_
    show TT _ _ _ _ _ _ _ [(5, .inl x96), (6, .inl x93), (4, .inl x88), (3, .inl x84), (0, .inr (some a0)), (1, .inr (some a1)), (2, .inl a2)] _ _
    refine tt_loc [(0, .inr (some a0)), (1, .inr (some a1)), (2, .inl a2), (3, .inl x84), (4, .inl x88), (5, .inl x96), (6, .inl x93)] (List.forall_mem_cons.mpr ⟨(.tail _ (.tail _ (.tail _ (.tail _ (.head _))))), List.forall_mem_cons.mpr ⟨(.tail _ (.tail _ (.tail _ (.tail _ (.tail _ (.head _)))))), List.forall_mem_cons.mpr ⟨(.tail _ (.tail _ (.tail _ (.tail _ (.tail _ (.tail _ (.head _))))))), List.forall_mem_cons.mpr ⟨(.tail _ (.tail _ (.tail _ (.head _)))), List.forall_mem_cons.mpr ⟨(.tail _ (.tail _ (.head _))), List.forall_mem_cons.mpr ⟨(.head _), List.forall_mem_cons.mpr ⟨(.tail _ (.head _)), fun _ z => absurd z List.not_mem_nil⟩⟩⟩⟩⟩⟩⟩) ?_
    exact B41 h hw hf x84 x88 x96 x93
abbrev mX6_check : tM := (RX6, cX6_check, 3, 4, 97, false)
set_option maxHeartbeats 4000000 in
theorem g_X6_check {l : Launch} {D : va_G} {N : Nat} {pk : Int} {τ : List Nat} (hN2 : 2 ≤ N) (hN8 : N ≤ 8) (hp0 : 0 ≤ pk) (hp64 : pk ≤ 64) {h : List tC} (hw : WT N pk τ h) (a0 : Nat) (ta0 : τ[a0]? = some 6) (a1 : Nat) (ta1 : τ[a1]? = some 4) : TMc l D yX6_check cX6_check 3 none 4 97 0 0 [.inr (some a0), .inr (some a1)] h (fun rv h' => WT N pk τ h' ∧ Fr PX τ h h' ∧ rv = none) := by
  refine tmc_of false rfl (by decide) (Nat.le_of_ble_eq_true rfl) ?_
  suffices HQ : ∀ Q0, Q0 = tRt cX6_check none (fun rv h' => WT N pk τ h' ∧ Fr PX τ h h' ∧ rv = none) → TT l D mX6_check Q0 0 0 0 [(0, .inr (some a0)), (1, .inr (some a1))] [] h from HQ _ rfl
  intro Q0 hQ
  have hf : Fr PX τ h h := Fr.rf
  have B2 : ∀ (n2 : Nat) (hb : List tC) (hwb : WT N pk τ hb) (hfb : Fr PX τ h hb) (x37 : Int32) (lx37 : 0 ≤ x37.toInt) (ux37 : x37.toInt ≤ 8), 8 - x37.toInt < n2 → TT l D mX6_check Q0 0 0 2 [(0, .inr (some a0)), (1, .inr (some a1)), (2, .inl x37)] [] hb := by
    intro n2
    induction n2 with
    | zero =>
      intro hb hwb hfb x37 lx37 ux37 hn2
      exfalso
      omega
    | succ n2 ih2 =>
      intro hb hwb hfb x37 lx37 ux37 hn2
      refine tt_iload_n (pc := 2) dX6_check_2 (.tail _ (.tail _ (.head _))) ?_
      refine tw_bipush (pc := 3) dX6_check_3 (by decide) (fun x38 ex38 => ?_)
      refine tw_icmp (tgt := 20) (pc := 5) dX6_check_5 (by decide) (fun (c39 : x38.toInt ≤ x37.toInt) => ?_) (fun (c39 : ¬ (x38.toInt ≤ x37.toInt)) => ?_)
      · skip
        refine tt_stop ?_
        rw [hQ]
        exact Or.inl ⟨dX6_check_20, rfl, rfl, hwb, hfb, rfl⟩
      · skip
        refine tt_aload_n (pc := 8) dX6_check_8 (.head _) ?_
        refine tt_aload_n (pc := 9) dX6_check_9 (.tail _ (.head _)) ?_
        refine tt_iload_n (pc := 10) dX6_check_10 (.tail _ (.tail _ (.head _))) ?_
        refine tw_callV (kc := 0) (ks := 0) (mc := 0) (ms := 0) (as := [.inr (some a1), .inl x37]) (st := []) (pc := 11) hwb ta0 (by decide) dX6_check_11 lkX6_345 imX6_checkPrefix seX6_checkPrefix rfl rfl (by decide) (by decide) (Nat.le_of_ble_eq_true rfl) (g_X6_checkPrefix hN2 hN8 hp0 hp64 hwb a0 ta0 a1 ta1 x37 (by omega) (by omega)) (fun rv h40 qh40 => ?_)
        obtain ⟨wh40, fh40, rfl⟩ := qh40
        have hfh40 := hfb.tr fh40
        show TT _ _ _ _ _ _ _ _ [] _
        refine tw_iinc (pc := 14) dX6_check_14 (.tail _ (.tail _ (.head _))) (by decide) (by decide) (by omega) (fun x41 ex41 => ?_)
        show TT _ _ _ _ _ _ _ [(2, .inl x41), (0, .inr (some a0)), (1, .inr (some a1))] _ _
        refine tt_goto (tgt := 2) (pc := 17) dX6_check_17 (by decide) ?_
        refine tt_loc [(0, .inr (some a0)), (1, .inr (some a1)), (2, .inl x41)] (List.forall_mem_cons.mpr ⟨(.tail _ (.head _)), List.forall_mem_cons.mpr ⟨(.tail _ (.tail _ (.head _))), List.forall_mem_cons.mpr ⟨(.head _), fun _ z => absurd z List.not_mem_nil⟩⟩⟩) ?_
        exact ih2 h40 wh40 hfh40 x41 (by omega) (by omega) (by omega)
  refine tw_iconst (pc := 0) dX6_check_0 (by decide) (fun x42 ex42 => ?_)
  refine tt_istore_n (pc := 1) dX6_check_1 (by decide) ?_
  show TT _ _ _ _ _ _ _ [(2, .inl x42), (0, .inr (some a0)), (1, .inr (some a1))] _ _
  refine tt_loc [(0, .inr (some a0)), (1, .inr (some a1)), (2, .inl x42)] (List.forall_mem_cons.mpr ⟨(.tail _ (.head _)), List.forall_mem_cons.mpr ⟨(.tail _ (.tail _ (.head _))), List.forall_mem_cons.mpr ⟨(.head _), fun _ z => absurd z List.not_mem_nil⟩⟩⟩) ?_
  exact B2 9 h hw hf x42 (by omega) (by omega) (by omega)
abbrev mX6_ofMapping : tM := (RX6, cX6_ofMapping, 6, 3, 70, false)
set_option maxHeartbeats 4000000 in
theorem g_X6_ofMapping {l : Launch} {D : va_G} {N : Nat} {pk : Int} {τ : List Nat} (hN2 : 2 ≤ N) (hN8 : N ≤ 8) (hp0 : 0 ≤ pk) (hp64 : pk ≤ 64) {h : List tC} (hw : WT N pk τ h) (a0 : Nat) (ta0 : τ[a0]? = some 6) (a1 : Nat) (ta1 : τ[a1]? = some 4) (a2 : Int32) (la2 : 0 ≤ a2.toInt) (ua2 : a2.toInt ≤ 7) (a3 : Int32) (a4 : Nat) (ta4 : τ[a4]? = some 17) : TMc l D yX6_ofMapping cX6_ofMapping 6 (some .int) 3 70 0 0 [.inr (some a0), .inr (some a1), .inl a2, .inl a3, .inr (some a4)] h (fun rv h' => h = h' ∧ ∃ x : Int32, rv = some (.inl x) ∧ -2147483648 ≤ x.toInt ∧ x.toInt ≤ 2147483647) := by
  refine tmc_of false rfl (by decide) (Nat.le_of_ble_eq_true rfl) ?_
  suffices HQ : ∀ Q0, Q0 = tRt cX6_ofMapping (some .int) (fun rv h' => h = h' ∧ ∃ x : Int32, rv = some (.inl x) ∧ -2147483648 ≤ x.toInt ∧ x.toInt ≤ 2147483647) → TT l D mX6_ofMapping Q0 0 0 0 [(0, .inr (some a0)), (1, .inr (some a1)), (2, .inl a2), (3, .inl a3), (4, .inr (some a4))] [] h from HQ _ rfl
  intro Q0 hQ
  have ba3 := i_ty a3
  refine tt_iload_n (pc := 0) dX6_ofMapping_0 (.tail _ (.tail _ (.tail _ (.head _)))) ?_
  refine tw_iconst (pc := 1) dX6_ofMapping_1 (by decide) (fun x25 ex25 => ?_)
  refine tw_icmp (tgt := 14) (pc := 2) dX6_ofMapping_2 (by decide) (fun (c26 : a3.toInt ≠ x25.toInt) => ?_) (fun (c26 : ¬ (a3.toInt ≠ x25.toInt)) => ?_)
  · skip
    refine tt_iload_n (pc := 14) dX6_ofMapping_14 (.tail _ (.tail _ (.tail _ (.head _)))) ?_
    refine tt_istore (pc := 15) dX6_ofMapping_15 (by decide) ?_
    show TT _ _ _ _ _ _ _ [(5, .inl a3), (0, .inr (some a0)), (1, .inr (some a1)), (2, .inl a2), (3, .inl a3), (4, .inr (some a4))] _ _
    refine tt_iload (pc := 17) dX6_ofMapping_17 (.head _) ?_
    refine tt_callS (kc := 0) (ks := 0) (mc := 0) (ms := 0) (as := [.inl a3]) (st := []) (pc := 19) dX6_ofMapping_19 lkX6_58 smX6_isLink rfl (by decide) (by decide) (Nat.le_of_ble_eq_true rfl) (g_X6_isLink hN2 hN8 hp0 hp64 hw a3) (fun rv h27 qh27 => ?_)
    obtain ⟨rfl, x28, rfl, lx28, ux28, Gx28, Zx28⟩ := qh27
    show TT _ _ _ _ _ _ _ _ [.inl x28] _
    refine tw_if (tgt := 35) (pc := 22) dX6_ofMapping_22 (by decide) (fun (c31 : x28.toInt = 0) => ?_) (fun (c31 : ¬ (x28.toInt = 0)) => ?_)
    · skip
      refine tw_iconst (pc := 35) dX6_ofMapping_35 (by decide) (fun x32 ex32 => ?_)
      refine tt_stop ?_
      rw [hQ]
      exact Or.inr (Or.inl ⟨x32, dX6_ofMapping_36, rfl, Or.inl rfl, rfl, x32, rfl, by omega, by omega⟩)
    · obtain ⟨b29, b30⟩ := Gx28 (by omega)
      refine tt_aload (pc := 25) dX6_ofMapping_25 (.tail _ (.tail _ (.tail _ (.tail _ (.tail _ (.head _)))))) ?_
      refine tt_iload_n (pc := 27) dX6_ofMapping_27 (.tail _ (.tail _ (.tail _ (.head _)))) ?_
      refine tw_ald (pc := 28) dX6_ofMapping_28 hw ta4 rfl (by decide) (by omega) (by omega) (fun f33 q34 ef33 gf33 tq34 => ?_)
      refine tt_iload (pc := 29) dX6_ofMapping_29 (.head _) ?_
      refine tw_ild (pc := 31) dX6_ofMapping_31 hw tq34 rfl (by omega) (by omega) (fun f36 x35 ef36 gf36 lx35 ux35 => ?_)
      refine tt_goto (tgt := 36) (pc := 32) dX6_ofMapping_32 (by decide) ?_
      refine tt_stop ?_
      rw [hQ]
      exact Or.inr (Or.inl ⟨x35, dX6_ofMapping_36, rfl, Or.inl rfl, rfl, x35, rfl, by omega, by omega⟩)
  · skip
    refine tt_aload_n (pc := 5) dX6_ofMapping_5 (.head _) ?_
    refine tt_aload_n (pc := 6) dX6_ofMapping_6 (.tail _ (.head _)) ?_
    refine tt_iload_n (pc := 7) dX6_ofMapping_7 (.tail _ (.tail _ (.head _))) ?_
    refine tw_callV (kc := 0) (ks := 0) (mc := 0) (ms := 0) (as := [.inr (some a1), .inl a2]) (st := []) (pc := 8) hw ta0 (by decide) dX6_ofMapping_8 lkX6_360 imX6_hopToEgress seX6_hopToEgress rfl rfl (by decide) (by decide) (Nat.le_of_ble_eq_true rfl) (g_X6_hopToEgress hN2 hN8 hp0 hp64 hw a0 ta0 a1 ta1 a2) (fun rv h37 qh37 => ?_)
    obtain ⟨rfl, x38, rfl, lx38, ux38⟩ := qh37
    show TT _ _ _ _ _ _ _ _ [.inl x38] _
    refine tt_goto (tgt := 15) (pc := 11) dX6_ofMapping_11 (by decide) ?_
    refine tt_istore (pc := 15) dX6_ofMapping_15 (by decide) ?_
    show TT _ _ _ _ _ _ _ [(5, .inl x38), (0, .inr (some a0)), (1, .inr (some a1)), (2, .inl a2), (3, .inl a3), (4, .inr (some a4))] _ _
    refine tt_iload (pc := 17) dX6_ofMapping_17 (.head _) ?_
    refine tt_callS (kc := 0) (ks := 0) (mc := 0) (ms := 0) (as := [.inl x38]) (st := []) (pc := 19) dX6_ofMapping_19 lkX6_58 smX6_isLink rfl (by decide) (by decide) (Nat.le_of_ble_eq_true rfl) (g_X6_isLink hN2 hN8 hp0 hp64 hw x38) (fun rv h39 qh39 => ?_)
    obtain ⟨rfl, x40, rfl, lx40, ux40, Gx40, Zx40⟩ := qh39
    show TT _ _ _ _ _ _ _ _ [.inl x40] _
    refine tw_if (tgt := 35) (pc := 22) dX6_ofMapping_22 (by decide) (fun (c43 : x40.toInt = 0) => ?_) (fun (c43 : ¬ (x40.toInt = 0)) => ?_)
    · skip
      refine tw_iconst (pc := 35) dX6_ofMapping_35 (by decide) (fun x44 ex44 => ?_)
      refine tt_stop ?_
      rw [hQ]
      exact Or.inr (Or.inl ⟨x44, dX6_ofMapping_36, rfl, Or.inl rfl, rfl, x44, rfl, by omega, by omega⟩)
    · obtain ⟨b41, b42⟩ := Gx40 (by omega)
      refine tt_aload (pc := 25) dX6_ofMapping_25 (.tail _ (.tail _ (.tail _ (.tail _ (.tail _ (.head _)))))) ?_
      refine tt_iload_n (pc := 27) dX6_ofMapping_27 (.tail _ (.tail _ (.tail _ (.head _)))) ?_
      refine tw_ald (pc := 28) dX6_ofMapping_28 hw ta4 rfl (by decide) (by omega) (by omega) (fun f45 q46 ef45 gf45 tq46 => ?_)
      refine tt_iload (pc := 29) dX6_ofMapping_29 (.head _) ?_
      refine tw_ild (pc := 31) dX6_ofMapping_31 hw tq46 rfl (by omega) (by omega) (fun f48 x47 ef48 gf48 lx47 ux47 => ?_)
      refine tt_goto (tgt := 36) (pc := 32) dX6_ofMapping_32 (by decide) ?_
      refine tt_stop ?_
      rw [hQ]
      exact Or.inr (Or.inl ⟨x47, dX6_ofMapping_36, rfl, Or.inl rfl, rfl, x47, rfl, by omega, by omega⟩)
abbrev mX6_go : tM := (RX6, cX6_go, 8, 3, 70, false)
set_option maxHeartbeats 4000000 in
theorem g_X6_go {l : Launch} {D : va_G} {N : Nat} {pk : Int} {τ : List Nat} (hN2 : 2 ≤ N) (hN8 : N ≤ 8) (hp0 : 0 ≤ pk) (hp64 : pk ≤ 64) {h : List tC} (hw : WT N pk τ h) (a0 : Nat) (ta0 : τ[a0]? = some 6) (a1 : Nat) (ta1 : τ[a1]? = some 4) (a2 : Int32) (la2 : 0 ≤ a2.toInt) (ua2 : a2.toInt ≤ pk - 1) (a3 : Int32) (la3 : 0 ≤ a3.toInt) (ua3 : a3.toInt ≤ 7) : TMc l D yX6_go cX6_go 8 none 3 70 0 0 [.inr (some a0), .inr (some a1), .inl a2, .inl a3] h (fun rv h' => WT N pk τ h' ∧ Fr PX τ h h' ∧ rv = none) := by
  refine tmc_of false rfl (by decide) (Nat.le_of_ble_eq_true rfl) ?_
  suffices HQ : ∀ Q0, Q0 = tRt cX6_go none (fun rv h' => WT N pk τ h' ∧ Fr PX τ h h' ∧ rv = none) → TT l D mX6_go Q0 0 0 0 [(0, .inr (some a0)), (1, .inr (some a1)), (2, .inl a2), (3, .inl a3)] [] h from HQ _ rfl
  intro Q0 hQ
  have hf : Fr PX τ h h := Fr.rf
  have B118 : ∀ (hb : List tC) (hwb : WT N pk τ hb) (hfb : Fr PX τ h hb), TT l D mX6_go Q0 0 0 118 [] [] hb := by
    intro hb hwb hfb
    refine tt_stop ?_
    rw [hQ]
    exact Or.inl ⟨dX6_go_118, rfl, rfl, hwb, hfb, rfl⟩
  refine tt_aload_n (pc := 0) dX6_go_0 (.head _) ?_
  refine tw_getr (pc := 1) dX6_go_1 flX6_21 hw ta0 (by decide) rfl (fun f60 q61 ef60 gf60 tq61 => ?_)
  refine tt_iload_n (pc := 4) dX6_go_4 (.tail _ (.tail _ (.head _))) ?_
  refine tw_aldp (pc := 5) dX6_go_5 hw tq61 (by omega) (by omega) (by omega) (fun f62 q63 ef62 gf62 tq63 => ?_)
  refine tt_astore (pc := 6) dX6_go_6 (by decide) ?_
  show TT _ _ _ _ _ _ _ [(4, .inr (some q63)), (0, .inr (some a0)), (1, .inr (some a1)), (2, .inl a2), (3, .inl a3)] _ _
  refine tt_aload_n (pc := 8) dX6_go_8 (.tail _ (.head _)) ?_
  refine tt_aload_n (pc := 9) dX6_go_9 (.tail _ (.tail _ (.head _))) ?_
  refine tt_iload_n (pc := 10) dX6_go_10 (.tail _ (.tail _ (.tail _ (.tail _ (.head _))))) ?_
  refine tw_callV (kc := 0) (ks := 0) (mc := 0) (ms := 0) (as := [.inr (some a1), .inl a3]) (st := []) (pc := 11) hw ta0 (by decide) dX6_go_11 lkX6_360 imX6_hopToEgress seX6_hopToEgress rfl rfl (by decide) (by decide) (Nat.le_of_ble_eq_true rfl) (g_X6_hopToEgress hN2 hN8 hp0 hp64 hw a0 ta0 a1 ta1 a3) (fun rv h64 qh64 => ?_)
  obtain ⟨rfl, x65, rfl, lx65, ux65⟩ := qh64
  show TT _ _ _ _ _ _ _ _ [.inl x65] _
  refine tt_istore (pc := 14) dX6_go_14 (by decide) ?_
  show TT _ _ _ _ _ _ _ [(5, .inl x65), (4, .inr (some q63)), (0, .inr (some a0)), (1, .inr (some a1)), (2, .inl a2), (3, .inl a3)] _ _
  refine tt_iload (pc := 16) dX6_go_16 (.head _) ?_
  refine tw_iconst (pc := 18) dX6_go_18 (by decide) (fun x66 ex66 => ?_)
  refine tw_icmp (tgt := 29) (pc := 19) dX6_go_19 (by decide) (fun (c67 : x65.toInt ≠ x66.toInt) => ?_) (fun (c67 : ¬ (x65.toInt ≠ x66.toInt)) => ?_)
  · skip
    refine tt_aload (pc := 29) dX6_go_29 (.tail _ (.head _)) ?_
    refine tw_geti (pc := 31) dX6_go_31 flX6_161 hw tq63 (by decide) rfl (fun f68 x69 ef68 gf68 lx69 ux69 => ?_)
    refine tw_if (tgt := 44) (pc := 34) dX6_go_34 (by decide) (fun (c70 : x69.toInt ≠ 0) => ?_) (fun (c70 : ¬ (x69.toInt ≠ 0)) => ?_)
    · skip
      refine tt_aload (pc := 44) dX6_go_44 (.tail _ (.head _)) ?_
      refine tt_dup (pc := 46) dX6_go_46 ?_
      refine tt_get (pc := 47) dX6_go_47 flX6_161 ef68 gf68 ?_
      refine tw_iconst (pc := 50) dX6_go_50 (by decide) (fun x71 ex71 => ?_)
      refine tt_isub (pc := 51) dX6_go_51 ?_
      refine tw_any (fun x72 => ?_)
      have bx72 := i_ty x72
      refine tw_put (P := PX) (pc := 52) dX6_go_52 flX6_161 hw tq63 (by decide) rfl ⟨by omega, by omega⟩ rfl (by decide) (by decide) (fun f73 h74 eh74 gh74 kh74 wh74 fh74 => ?_)
      have hfh74 := hf.tr fh74
      refine tt_aload_n (pc := 55) dX6_go_55 (.tail _ (.tail _ (.tail _ (.head _)))) ?_
      refine tw_getr (pc := 56) dX6_go_56 flX6_213 wh74 ta1 (by decide) rfl (fun f75 q76 ef75 gf75 tq76 => ?_)
      refine tt_iload_n (pc := 59) dX6_go_59 (.tail _ (.tail _ (.tail _ (.tail _ (.tail _ (.head _)))))) ?_
      refine tw_ald (pc := 60) dX6_go_60 wh74 tq76 rfl (by decide) (by omega) (by omega) (fun f77 q78 ef77 gf77 tq78 => ?_)
      refine tt_iload (pc := 61) dX6_go_61 (.head _) ?_
      refine tw_ild (pc := 63) dX6_go_63 wh74 tq78 rfl (by omega) (by omega) (fun f80 x79 ef80 gf80 lx79 ux79 => ?_)
      refine tt_istore (pc := 64) dX6_go_64 (by decide) ?_
      show TT _ _ _ _ _ _ _ [(6, .inl x79), (5, .inl x65), (4, .inr (some q63)), (0, .inr (some a0)), (1, .inr (some a1)), (2, .inl a2), (3, .inl a3)] _ _
      refine tt_iload (pc := 66) dX6_go_66 (.head _) ?_
      refine tw_iconst (pc := 68) dX6_go_68 (by decide) (fun x81 ex81 => ?_)
      refine tw_icmp (tgt := 76) (pc := 69) dX6_go_69 (by decide) (fun (c82 : x79.toInt ≠ x81.toInt) => ?_) (fun (c82 : ¬ (x79.toInt ≠ x81.toInt)) => ?_)
      · skip
        refine tt_iload (pc := 76) dX6_go_76 (.head _) ?_
        refine tt_istore (pc := 78) dX6_go_78 (by decide) ?_
        show TT _ _ _ _ _ _ _ [(7, .inl x79), (6, .inl x79), (5, .inl x65), (4, .inr (some q63)), (0, .inr (some a0)), (1, .inr (some a1)), (2, .inl a2), (3, .inl a3)] _ _
        refine tt_aload_n (pc := 80) dX6_go_80 (.tail _ (.tail _ (.tail _ (.tail _ (.head _))))) ?_
        refine tt_aload_n (pc := 81) dX6_go_81 (.tail _ (.tail _ (.tail _ (.tail _ (.tail _ (.head _)))))) ?_
        refine tt_iload (pc := 82) dX6_go_82 (.tail _ (.tail _ (.head _))) ?_
        refine tt_aload_n (pc := 84) dX6_go_84 (.tail _ (.tail _ (.tail _ (.tail _ (.head _))))) ?_
        refine tw_getr (pc := 85) dX6_go_85 flX6_35 wh74 ta0 (by decide) rfl (fun f83 q84 ef83 gf83 tq84 => ?_)
        refine tw_iconst (pc := 88) dX6_go_88 (by decide) (fun x85 ex85 => ?_)
        refine tt_iload_n (pc := 89) dX6_go_89 (.tail _ (.tail _ (.tail _ (.tail _ (.tail _ (.tail _ (.head _))))))) ?_
        refine tt_iload (pc := 90) dX6_go_90 (.head _) ?_
        refine tw_iconst (pc := 92) dX6_go_92 (by decide) (fun x86 ex86 => ?_)
        refine tw_callV (kc := 0) (ks := 0) (mc := 0) (ms := 0) (as := [.inl x85, .inl a2, .inl x79, .inl x86]) (st := [.inl x65, .inr (some a1), .inr (some a0)]) (pc := 93) wh74 tq84 (by decide) dX6_go_93 lkX6_280 imX1_as seX1_as rfl rfl (by decide) (by decide) (Nat.le_of_ble_eq_true rfl) (g_X1_asB hN2 hN8 hp0 hp64 wh74 q84 tq84 x85 (by omega) (by omega) a2 (by omega) (by omega) x79 x86) (fun rv h87 qh87 => ?_)
        obtain ⟨wh87, fh87, q88, rfl, tq88⟩ := qh87
        have hfh87 := hfh74.tr fh87
        show TT _ _ _ _ _ _ _ _ [.inr (some q88), .inl x65, .inr (some a1), .inr (some a0)] _
        refine tw_callV (kc := 0) (ks := 0) (mc := 0) (ms := 0) (as := [.inr (some a1), .inl x65, .inr (some q88)]) (st := []) (pc := 96) wh87 ta0 (by decide) dX6_go_96 lkX6_276 imX6_put seX6_put rfl rfl (by decide) (by decide) (Nat.le_of_ble_eq_true rfl) (g_X6_put hN2 hN8 hp0 hp64 wh87 a0 ta0 a1 ta1 x65 (by omega) (by omega) q88 tq88) (fun rv h89 qh89 => ?_)
        obtain ⟨wh89, fh89, x90, rfl, lx90, ux90⟩ := qh89
        have hfh89 := hfh87.tr fh89
        show TT _ _ _ _ _ _ _ _ [.inl x90] _
        refine tw_if (tgt := 112) (pc := 99) dX6_go_99 (by decide) (fun (c91 : x90.toInt = 0) => ?_) (fun (c91 : ¬ (x90.toInt = 0)) => ?_)
        · skip
          refine tt_aload (pc := 112) dX6_go_112 (.tail _ (.tail _ (.tail _ (.head _)))) ?_
          refine tw_iconst (pc := 114) dX6_go_114 (by decide) (fun x92 ex92 => ?_)
          refine tw_put (P := PX) (pc := 115) dX6_go_115 flX6_155 wh89 tq63 (by decide) rfl ⟨by omega, by omega⟩ rfl (by decide) (by decide) (fun f93 h94 eh94 gh94 kh94 wh94 fh94 => ?_)
          have hfh94 := hfh89.tr fh94
          refine tt_loc [] (fun _ z => absurd z List.not_mem_nil) ?_
          exact B118 h94 wh94 hfh94
        · skip
          refine tt_aload (pc := 102) dX6_go_102 (.tail _ (.tail _ (.tail _ (.head _)))) ?_
          refine tt_iload (pc := 104) dX6_go_104 (.head _) ?_
          refine tw_put (P := PX) (pc := 106) dX6_go_106 flX6_164 wh89 tq63 (by decide) rfl ⟨by omega, by omega⟩ rfl (by decide) (by decide) (fun f95 h96 eh96 gh96 kh96 wh96 fh96 => ?_)
          have hfh96 := hfh89.tr fh96
          refine tt_goto (tgt := 118) (pc := 109) dX6_go_109 (by decide) ?_
          refine tt_loc [] (fun _ z => absurd z List.not_mem_nil) ?_
          exact B118 h96 wh96 hfh96
      · skip
        refine tw_iconst (pc := 72) dX6_go_72 (by decide) (fun x97 ex97 => ?_)
        refine tt_goto (tgt := 78) (pc := 73) dX6_go_73 (by decide) ?_
        refine tt_istore (pc := 78) dX6_go_78 (by decide) ?_
        show TT _ _ _ _ _ _ _ [(7, .inl x97), (6, .inl x79), (5, .inl x65), (4, .inr (some q63)), (0, .inr (some a0)), (1, .inr (some a1)), (2, .inl a2), (3, .inl a3)] _ _
        refine tt_aload_n (pc := 80) dX6_go_80 (.tail _ (.tail _ (.tail _ (.tail _ (.head _))))) ?_
        refine tt_aload_n (pc := 81) dX6_go_81 (.tail _ (.tail _ (.tail _ (.tail _ (.tail _ (.head _)))))) ?_
        refine tt_iload (pc := 82) dX6_go_82 (.tail _ (.tail _ (.head _))) ?_
        refine tt_aload_n (pc := 84) dX6_go_84 (.tail _ (.tail _ (.tail _ (.tail _ (.head _))))) ?_
        refine tw_getr (pc := 85) dX6_go_85 flX6_35 wh74 ta0 (by decide) rfl (fun f98 q99 ef98 gf98 tq99 => ?_)
        refine tw_iconst (pc := 88) dX6_go_88 (by decide) (fun x100 ex100 => ?_)
        refine tt_iload_n (pc := 89) dX6_go_89 (.tail _ (.tail _ (.tail _ (.tail _ (.tail _ (.tail _ (.head _))))))) ?_
        refine tt_iload (pc := 90) dX6_go_90 (.head _) ?_
        refine tw_iconst (pc := 92) dX6_go_92 (by decide) (fun x101 ex101 => ?_)
        refine tw_callV (kc := 0) (ks := 0) (mc := 0) (ms := 0) (as := [.inl x100, .inl a2, .inl x97, .inl x101]) (st := [.inl x65, .inr (some a1), .inr (some a0)]) (pc := 93) wh74 tq99 (by decide) dX6_go_93 lkX6_280 imX1_as seX1_as rfl rfl (by decide) (by decide) (Nat.le_of_ble_eq_true rfl) (g_X1_asB hN2 hN8 hp0 hp64 wh74 q99 tq99 x100 (by omega) (by omega) a2 (by omega) (by omega) x97 x101) (fun rv h102 qh102 => ?_)
        obtain ⟨wh102, fh102, q103, rfl, tq103⟩ := qh102
        have hfh102 := hfh74.tr fh102
        show TT _ _ _ _ _ _ _ _ [.inr (some q103), .inl x65, .inr (some a1), .inr (some a0)] _
        refine tw_callV (kc := 0) (ks := 0) (mc := 0) (ms := 0) (as := [.inr (some a1), .inl x65, .inr (some q103)]) (st := []) (pc := 96) wh102 ta0 (by decide) dX6_go_96 lkX6_276 imX6_put seX6_put rfl rfl (by decide) (by decide) (Nat.le_of_ble_eq_true rfl) (g_X6_put hN2 hN8 hp0 hp64 wh102 a0 ta0 a1 ta1 x65 (by omega) (by omega) q103 tq103) (fun rv h104 qh104 => ?_)
        obtain ⟨wh104, fh104, x105, rfl, lx105, ux105⟩ := qh104
        have hfh104 := hfh102.tr fh104
        show TT _ _ _ _ _ _ _ _ [.inl x105] _
        refine tw_if (tgt := 112) (pc := 99) dX6_go_99 (by decide) (fun (c106 : x105.toInt = 0) => ?_) (fun (c106 : ¬ (x105.toInt = 0)) => ?_)
        · skip
          refine tt_aload (pc := 112) dX6_go_112 (.tail _ (.tail _ (.tail _ (.head _)))) ?_
          refine tw_iconst (pc := 114) dX6_go_114 (by decide) (fun x107 ex107 => ?_)
          refine tw_put (P := PX) (pc := 115) dX6_go_115 flX6_155 wh104 tq63 (by decide) rfl ⟨by omega, by omega⟩ rfl (by decide) (by decide) (fun f108 h109 eh109 gh109 kh109 wh109 fh109 => ?_)
          have hfh109 := hfh104.tr fh109
          refine tt_loc [] (fun _ z => absurd z List.not_mem_nil) ?_
          exact B118 h109 wh109 hfh109
        · skip
          refine tt_aload (pc := 102) dX6_go_102 (.tail _ (.tail _ (.tail _ (.head _)))) ?_
          refine tt_iload (pc := 104) dX6_go_104 (.head _) ?_
          refine tw_put (P := PX) (pc := 106) dX6_go_106 flX6_164 wh104 tq63 (by decide) rfl ⟨by omega, by omega⟩ rfl (by decide) (by decide) (fun f110 h111 eh111 gh111 kh111 wh111 fh111 => ?_)
          have hfh111 := hfh104.tr fh111
          refine tt_goto (tgt := 118) (pc := 109) dX6_go_109 (by decide) ?_
          refine tt_loc [] (fun _ z => absurd z List.not_mem_nil) ?_
          exact B118 h111 wh111 hfh111
    · skip
      refine tt_aload (pc := 37) dX6_go_37 (.tail _ (.head _)) ?_
      refine tw_iconst (pc := 39) dX6_go_39 (by decide) (fun x112 ex112 => ?_)
      refine tw_put (P := PX) (pc := 40) dX6_go_40 flX6_155 hw tq63 (by decide) rfl ⟨by omega, by omega⟩ rfl (by decide) (by decide) (fun f113 h114 eh114 gh114 kh114 wh114 fh114 => ?_)
      have hfh114 := hf.tr fh114
      have G115 : (f113.set 4 (.inl x112 : tV))[1]? = some (.inl x69 : tV) := by
          rw [List.getElem?_set_ne (by decide)]
          have z9 := ef68.symm.trans eh114
          cases z9
          exact gf68
      refine tt_stop ?_
      rw [hQ]
      exact Or.inl ⟨dX6_go_43, rfl, rfl, wh114, hfh114, rfl⟩
  · skip
    refine tt_aload (pc := 22) dX6_go_22 (.tail _ (.head _)) ?_
    refine tw_iconst (pc := 24) dX6_go_24 (by decide) (fun x116 ex116 => ?_)
    refine tw_put (P := PX) (pc := 25) dX6_go_25 flX6_155 hw tq63 (by decide) rfl ⟨by omega, by omega⟩ rfl (by decide) (by decide) (fun f117 h118 eh118 gh118 kh118 wh118 fh118 => ?_)
    have hfh118 := hf.tr fh118
    refine tt_stop ?_
    rw [hQ]
    exact Or.inl ⟨dX6_go_28, rfl, rfl, wh118, hfh118, rfl⟩
abbrev mX6_packetComes : tM := (RX6, cX6_packetComes, 6, 4, 97, false)
set_option maxHeartbeats 4000000 in
theorem g_X6_packetComes {l : Launch} {D : va_G} {N : Nat} {pk : Int} {τ : List Nat} (hN2 : 2 ≤ N) (hN8 : N ≤ 8) (hp0 : 0 ≤ pk) (hp64 : pk ≤ 64) {h : List tC} (hw : WT N pk τ h) (a0 : Nat) (ta0 : τ[a0]? = some 6) (a1 : Nat) (ta1 : τ[a1]? = some 4) (a2 : Int32) (la2 : 0 ≤ a2.toInt) (ua2 : a2.toInt ≤ pk - 1) (a3 : Int32) : TMc l D yX6_packetComes cX6_packetComes 6 none 4 97 0 0 [.inr (some a0), .inr (some a1), .inl a2, .inl a3] h (fun rv h' => WT N pk τ h' ∧ Fr PX τ h h' ∧ rv = none) := by
  refine tmc_of false rfl (by decide) (Nat.le_of_ble_eq_true rfl) ?_
  suffices HQ : ∀ Q0, Q0 = tRt cX6_packetComes none (fun rv h' => WT N pk τ h' ∧ Fr PX τ h h' ∧ rv = none) → TT l D mX6_packetComes Q0 0 0 0 [(0, .inr (some a0)), (1, .inr (some a1)), (2, .inl a2), (3, .inl a3)] [] h from HQ _ rfl
  intro Q0 hQ
  have hf : Fr PX τ h h := Fr.rf
  have B92 : ∀ (hb : List tC) (hwb : WT N pk τ hb) (hfb : Fr PX τ h hb), TT l D mX6_packetComes Q0 0 0 92 [] [] hb := by
    intro hb hwb hfb
    refine tt_stop ?_
    rw [hQ]
    exact Or.inl ⟨dX6_packetComes_92, rfl, rfl, hwb, hfb, rfl⟩
  have B52 : ∀ (hb : List tC) (hwb : WT N pk τ hb) (hfb : Fr PX τ h hb), TT l D mX6_packetComes Q0 0 0 52 [] [] hb := by
    intro hb hwb hfb
    refine tt_goto (tgt := 92) (pc := 52) dX6_packetComes_52 (by decide) ?_
    refine tt_loc [] (fun _ z => absurd z List.not_mem_nil) ?_
    exact B92 hb hwb hfb
  have ba3 := i_ty a3
  refine tt_aload_n (pc := 0) dX6_packetComes_0 (.head _) ?_
  refine tw_getr (pc := 1) dX6_packetComes_1 flX6_21 hw ta0 (by decide) rfl (fun f35 q36 ef35 gf35 tq36 => ?_)
  refine tt_iload_n (pc := 4) dX6_packetComes_4 (.tail _ (.tail _ (.head _))) ?_
  refine tw_aldp (pc := 5) dX6_packetComes_5 hw tq36 (by omega) (by omega) (by omega) (fun f37 q38 ef37 gf37 tq38 => ?_)
  refine tt_astore (pc := 6) dX6_packetComes_6 (by decide) ?_
  show TT _ _ _ _ _ _ _ [(4, .inr (some q38)), (0, .inr (some a0)), (1, .inr (some a1)), (2, .inl a2), (3, .inl a3)] _ _
  refine tt_aload (pc := 8) dX6_packetComes_8 (.head _) ?_
  refine tt_aload_n (pc := 10) dX6_packetComes_10 (.tail _ (.tail _ (.head _))) ?_
  refine tw_geti (pc := 11) dX6_packetComes_11 flX6_249 hw ta1 (by decide) rfl (fun f39 x40 ef39 gf39 lx40 ux40 => ?_)
  refine tw_put (P := PX) (pc := 14) dX6_packetComes_14 flX6_158 hw tq38 (by decide) rfl ⟨by omega, by omega⟩ rfl (by decide) (by decide) (fun f41 h42 eh42 gh42 kh42 wh42 fh42 => ?_)
  have hfh42 := hf.tr fh42
  refine tt_iload_n (pc := 17) dX6_packetComes_17 (.tail _ (.tail _ (.tail _ (.tail _ (.head _))))) ?_
  refine tw_iconst (pc := 18) dX6_packetComes_18 (by decide) (fun x43 ex43 => ?_)
  refine tw_icmp (tgt := 55) (pc := 19) dX6_packetComes_19 (by decide) (fun (c44 : a3.toInt = x43.toInt) => ?_) (fun (c44 : ¬ (a3.toInt = x43.toInt)) => ?_)
  · skip
    refine tt_aload_n (pc := 55) dX6_packetComes_55 (.tail _ (.head _)) ?_
    refine tw_getr (pc := 56) dX6_packetComes_56 flX6_15 wh42 ta0 (by decide) rfl (fun f45 q46 ef45 gf45 tq46 => ?_)
    refine tt_aload (pc := 59) dX6_packetComes_59 (.head _) ?_
    refine tw_geti (pc := 61) dX6_packetComes_61 flX6_167 wh42 tq38 (by decide) rfl (fun f47 x48 ef47 gf47 lx48 ux48 => ?_)
    refine tw_ild (pc := 64) dX6_packetComes_64 wh42 tq46 rfl (by omega) (by omega) (fun f50 x49 ef50 gf50 lx49 ux49 => ?_)
    refine tt_aload_n (pc := 65) dX6_packetComes_65 (.tail _ (.tail _ (.head _))) ?_
    refine tw_geti (pc := 66) dX6_packetComes_66 flX6_249 wh42 ta1 (by decide) rfl (fun f51 x52 ef51 gf51 lx52 ux52 => ?_)
    refine tw_icmp (tgt := 81) (pc := 69) dX6_packetComes_69 (by decide) (fun (c53 : x49.toInt ≠ x52.toInt) => ?_) (fun (c53 : ¬ (x49.toInt ≠ x52.toInt)) => ?_)
    · skip
      refine tt_aload_n (pc := 81) dX6_packetComes_81 (.tail _ (.head _)) ?_
      refine tt_aload_n (pc := 82) dX6_packetComes_82 (.tail _ (.tail _ (.head _))) ?_
      refine tt_iload_n (pc := 83) dX6_packetComes_83 (.tail _ (.tail _ (.tail _ (.head _)))) ?_
      refine tt_aload (pc := 84) dX6_packetComes_84 (.head _) ?_
      refine tt_get (pc := 86) dX6_packetComes_86 flX6_167 ef47 gf47 ?_
      refine tw_callV (kc := 0) (ks := 0) (mc := 0) (ms := 0) (as := [.inr (some a1), .inl a2, .inl x48]) (st := []) (pc := 89) wh42 ta0 (by decide) dX6_packetComes_89 lkX6_366 imX6_go seX6_go rfl rfl (by decide) (by decide) (Nat.le_of_ble_eq_true rfl) (g_X6_go hN2 hN8 hp0 hp64 wh42 a0 ta0 a1 ta1 a2 (by omega) (by omega) x48 (by omega) (by omega)) (fun rv h54 qh54 => ?_)
      obtain ⟨wh54, fh54, rfl⟩ := qh54
      have hfh54 := hfh42.tr fh54
      show TT _ _ _ _ _ _ _ _ [] _
      refine tt_loc [] (fun _ z => absurd z List.not_mem_nil) ?_
      exact B92 h54 wh54 hfh54
    · skip
      refine tt_aload (pc := 72) dX6_packetComes_72 (.head _) ?_
      refine tw_iconst (pc := 74) dX6_packetComes_74 (by decide) (fun x55 ex55 => ?_)
      refine tw_put (P := PX) (pc := 75) dX6_packetComes_75 flX6_155 wh42 tq38 (by decide) rfl ⟨by omega, by omega⟩ rfl (by decide) (by decide) (fun f56 h57 eh57 gh57 kh57 wh57 fh57 => ?_)
      have hfh57 := hfh42.tr fh57
      have G58 : (f56.set 4 (.inl x55 : tV))[2]? = some (.inl x40 : tV) := by
          rw [List.getElem?_set_ne (by decide)]
          have z9 := gh42.symm.trans eh57
          cases z9
          exact (List.getElem?_set_self kh42)
      have G59 : (f56.set 4 (.inl x55 : tV))[0]? = some (.inl x48 : tV) := by
          rw [List.getElem?_set_ne (by decide)]
          have z9 := ef47.symm.trans eh57
          cases z9
          exact gf47
      refine tt_goto (tgt := 92) (pc := 78) dX6_packetComes_78 (by decide) ?_
      refine tt_loc [] (fun _ z => absurd z List.not_mem_nil) ?_
      exact B92 h57 wh57 hfh57
  · skip
    refine tt_aload_n (pc := 22) dX6_packetComes_22 (.tail _ (.tail _ (.head _))) ?_
    refine tt_iload_n (pc := 23) dX6_packetComes_23 (.tail _ (.tail _ (.tail _ (.tail _ (.head _))))) ?_
    refine tw_callV (kc := 0) (ks := 0) (mc := 0) (ms := 0) (as := [.inl a3]) (st := []) (pc := 24) wh42 ta1 (by decide) dX6_packetComes_24 lkX6_363 imX4_prefixOfLabel seX4_prefixOfLabel rfl rfl (by decide) (by decide) (Nat.le_of_ble_eq_true rfl) (g_X4_prefixOfLabel hN2 hN8 hp0 hp64 wh42 a1 ta1 a3) (fun rv h60 qh60 => ?_)
    obtain ⟨rfl, x61, rfl, lx61, ux61⟩ := qh60
    show TT _ _ _ _ _ _ _ _ [.inl x61] _
    refine tt_istore (pc := 27) dX6_packetComes_27 (by decide) ?_
    show TT _ _ _ _ _ _ _ [(5, .inl x61), (4, .inr (some q38)), (0, .inr (some a0)), (1, .inr (some a1)), (2, .inl a2), (3, .inl a3)] _ _
    refine tt_iload (pc := 29) dX6_packetComes_29 (.head _) ?_
    refine tw_iconst (pc := 31) dX6_packetComes_31 (by decide) (fun x62 ex62 => ?_)
    refine tw_icmp (tgt := 44) (pc := 32) dX6_packetComes_32 (by decide) (fun (c63 : x61.toInt ≠ x62.toInt) => ?_) (fun (c63 : ¬ (x61.toInt ≠ x62.toInt)) => ?_)
    · skip
      refine tt_aload_n (pc := 44) dX6_packetComes_44 (.tail _ (.tail _ (.head _))) ?_
      refine tt_aload_n (pc := 45) dX6_packetComes_45 (.tail _ (.tail _ (.tail _ (.head _)))) ?_
      refine tt_iload_n (pc := 46) dX6_packetComes_46 (.tail _ (.tail _ (.tail _ (.tail _ (.head _))))) ?_
      refine tt_iload (pc := 47) dX6_packetComes_47 (.head _) ?_
      refine tw_callV (kc := 0) (ks := 0) (mc := 0) (ms := 0) (as := [.inr (some a1), .inl a2, .inl x61]) (st := []) (pc := 49) wh42 ta0 (by decide) dX6_packetComes_49 lkX6_366 imX6_go seX6_go rfl rfl (by decide) (by decide) (Nat.le_of_ble_eq_true rfl) (g_X6_go hN2 hN8 hp0 hp64 wh42 a0 ta0 a1 ta1 a2 (by omega) (by omega) x61 (by omega) (by omega)) (fun rv h64 qh64 => ?_)
      obtain ⟨wh64, fh64, rfl⟩ := qh64
      have hfh64 := hfh42.tr fh64
      show TT _ _ _ _ _ _ _ _ [] _
      refine tt_loc [] (fun _ z => absurd z List.not_mem_nil) ?_
      exact B52 h64 wh64 hfh64
    · skip
      refine tt_aload (pc := 35) dX6_packetComes_35 (.tail _ (.head _)) ?_
      refine tw_iconst (pc := 37) dX6_packetComes_37 (by decide) (fun x65 ex65 => ?_)
      refine tw_put (P := PX) (pc := 38) dX6_packetComes_38 flX6_155 wh42 tq38 (by decide) rfl ⟨by omega, by omega⟩ rfl (by decide) (by decide) (fun f66 h67 eh67 gh67 kh67 wh67 fh67 => ?_)
      have hfh67 := hfh42.tr fh67
      have G68 : (f66.set 4 (.inl x65 : tV))[2]? = some (.inl x40 : tV) := by
          rw [List.getElem?_set_ne (by decide)]
          have z9 := gh42.symm.trans eh67
          cases z9
          exact (List.getElem?_set_self kh42)
      refine tt_goto (tgt := 52) (pc := 41) dX6_packetComes_41 (by decide) ?_
      refine tt_loc [] (fun _ z => absurd z List.not_mem_nil) ?_
      exact B52 h67 wh67 hfh67
abbrev mX6_handOver : tM := (RX6, cX6_handOver, 7, 5, 122, false)
set_option maxHeartbeats 4000000 in
theorem g_X6_handOver {l : Launch} {D : va_G} {N : Nat} {pk : Int} {τ : List Nat} (hN2 : 2 ≤ N) (hN8 : N ≤ 8) (hp0 : 0 ≤ pk) (hp64 : pk ≤ 64) {h : List tC} (hw : WT N pk τ h) (a0 : Nat) (ta0 : τ[a0]? = some 6) (a1 : Int32) (la1 : 0 ≤ a1.toInt) (ua1 : a1.toInt ≤ 11) (a2 : Int32) (la2 : 0 ≤ a2.toInt) (ua2 : a2.toInt ≤ 1) : TMc l D yX6_handOver cX6_handOver 7 (some .int) 5 122 0 0 [.inr (some a0), .inl a1, .inl a2] h (fun rv h' => WT N pk τ h' ∧ Fr PX τ h h' ∧ ∃ x : Int32, rv = some (.inl x) ∧ -2147483648 ≤ x.toInt ∧ x.toInt ≤ 2147483647) := by
  refine tmc_of false rfl (by decide) (Nat.le_of_ble_eq_true rfl) ?_
  suffices HQ : ∀ Q0, Q0 = tRt cX6_handOver (some .int) (fun rv h' => WT N pk τ h' ∧ Fr PX τ h h' ∧ ∃ x : Int32, rv = some (.inl x) ∧ -2147483648 ≤ x.toInt ∧ x.toInt ≤ 2147483647) → TT l D mX6_handOver Q0 0 0 0 [(0, .inr (some a0)), (1, .inl a1), (2, .inl a2)] [] h from HQ _ rfl
  intro Q0 hQ
  have hf : Fr PX τ h h := Fr.rf
  have B232 : ∀ (hb : List tC) (hwb : WT N pk τ hb) (hfb : Fr PX τ h hb) (q104 : Nat) (tq104 : τ[q104]? = some 1), TT l D mX6_handOver Q0 0 0 232 [(4, .inr (some q104))] [] hb := by
    intro hb hwb hfb q104 tq104
    refine tt_aload (pc := 232) dX6_handOver_232 (.head _) ?_
    refine tw_geti (pc := 234) dX6_handOver_234 flX6_246 hwb tq104 (by decide) rfl (fun f105 x106 ef105 gf105 lx106 ux106 => ?_)
    refine tt_stop ?_
    rw [hQ]
    exact Or.inr (Or.inl ⟨x106, dX6_handOver_237, rfl, Or.inl rfl, hwb, hfb, x106, rfl, by omega, by omega⟩)
  have B221 : ∀ (hb : List tC) (hwb : WT N pk τ hb) (hfb : Fr PX τ h hb) (q107 : Nat) (tq107 : τ[q107]? = some 1) (q108 : Nat) (tq108 : τ[q108]? = some 4) (x109 : Int32) (lx109 : 0 ≤ x109.toInt) (ux109 : x109.toInt ≤ 1), TT l D mX6_handOver Q0 0 0 221 [(0, .inr (some a0)), (4, .inr (some q107)), (5, .inr (some q108)), (6, .inl x109)] [] hb := by
    intro hb hwb hfb q107 tq107 q108 tq108 x109 lx109 ux109
    refine tt_iload (pc := 221) dX6_handOver_221 (.tail _ (.tail _ (.tail _ (.head _)))) ?_
    refine tw_if (tgt := 232) (pc := 223) dX6_handOver_223 (by decide) (fun (c110 : x109.toInt = 0) => ?_) (fun (c110 : ¬ (x109.toInt = 0)) => ?_)
    · skip
      refine tt_loc [(4, .inr (some q107))] (List.forall_mem_cons.mpr ⟨(.tail _ (.head _)), fun _ z => absurd z List.not_mem_nil⟩) ?_
      exact B232 hb hwb hfb q107 tq107
    · skip
      refine tt_aload_n (pc := 226) dX6_handOver_226 (.head _) ?_
      refine tt_aload (pc := 227) dX6_handOver_227 (.tail _ (.tail _ (.head _))) ?_
      refine tw_callV (kc := 0) (ks := 0) (mc := 0) (ms := 0) (as := [.inr (some q108)]) (st := []) (pc := 229) hwb ta0 (by decide) dX6_handOver_229 lkX6_114 imX6_check seX6_check rfl rfl (by decide) (by decide) (Nat.le_of_ble_eq_true rfl) (g_X6_check hN2 hN8 hp0 hp64 hwb a0 ta0 q108 tq108) (fun rv h111 qh111 => ?_)
      obtain ⟨wh111, fh111, rfl⟩ := qh111
      have hfh111 := hfb.tr fh111
      show TT _ _ _ _ _ _ _ _ [] _
      refine tt_loc [(4, .inr (some q107))] (List.forall_mem_cons.mpr ⟨(.tail _ (.head _)), fun _ z => absurd z List.not_mem_nil⟩) ?_
      exact B232 h111 wh111 hfh111 q107 tq107
  have B62 : ∀ (hb : List tC) (hwb : WT N pk τ hb) (hfb : Fr PX τ h hb) (q112 : Nat) (tq112 : τ[q112]? = some 1), TT l D mX6_handOver Q0 0 0 62 [(4, .inr (some q112))] [] hb := by
    intro hb hwb hfb q112 tq112
    refine tt_aload (pc := 62) dX6_handOver_62 (.head _) ?_
    refine tw_callV (kc := 0) (ks := 0) (mc := 0) (ms := 0) (as := []) (st := []) (pc := 64) hwb tq112 (by decide) dX6_handOver_64 lkX6_173 imX1_shownKind seX1_shownKind rfl rfl (by decide) (by decide) (Nat.le_of_ble_eq_true rfl) (g_X1_shownKind hN2 hN8 hp0 hp64 hwb q112 tq112) (fun rv h113 qh113 => ?_)
    obtain ⟨rfl, x114, rfl, lx114, ux114⟩ := qh113
    show TT _ _ _ _ _ _ _ _ [.inl x114] _
    refine tt_stop ?_
    rw [hQ]
    exact Or.inr (Or.inl ⟨x114, dX6_handOver_67, rfl, Or.inl rfl, hwb, hfb, x114, rfl, by omega, by omega⟩)
  refine tt_aload_n (pc := 0) dX6_handOver_0 (.head _) ?_
  refine tw_getr (pc := 1) dX6_handOver_1 flX6_11 hw ta0 (by decide) rfl (fun f115 q116 ef115 gf115 tq116 => ?_)
  refine tt_iload_n (pc := 4) dX6_handOver_4 (.tail _ (.head _)) ?_
  refine tw_ald (pc := 5) dX6_handOver_5 hw tq116 rfl (by decide) (by omega) (by omega) (fun f117 q118 ef117 gf117 tq118 => ?_)
  refine tw_getr (pc := 6) dX6_handOver_6 flX6_131 hw tq118 (by decide) rfl (fun f119 q120 ef119 gf119 tq120 => ?_)
  refine tt_iload_n (pc := 9) dX6_handOver_9 (.tail _ (.tail _ (.head _))) ?_
  refine tw_ald (pc := 10) dX6_handOver_10 hw tq120 rfl (by decide) (by omega) (by omega) (fun f121 q122 ef121 gf121 tq122 => ?_)
  refine tt_astore_n (pc := 11) dX6_handOver_11 (by decide) ?_
  show TT _ _ _ _ _ _ _ [(3, .inr (some q122)), (0, .inr (some a0)), (1, .inl a1), (2, .inl a2)] _ _
  refine tt_aload_n (pc := 12) dX6_handOver_12 (.head _) ?_
  refine tw_iconst (pc := 13) dX6_handOver_13 (by decide) (fun x123 ex123 => ?_)
  refine tw_callV (kc := 0) (ks := 0) (mc := 0) (ms := 0) (as := [.inl x123]) (st := []) (pc := 14) hw tq122 (by decide) dX6_handOver_14 lkX6_135 imX2_at seX2_at rfl rfl (by decide) (by decide) (Nat.le_of_ble_eq_true rfl) (g_X2_at hN2 hN8 hp0 hp64 hw q122 tq122 x123) (fun rv h124 qh124 => ?_)
  obtain ⟨rfl, o125, rfl, to125⟩ := qh124
  show TT _ _ _ _ _ _ _ _ [.inr o125] _
  refine tt_astore (pc := 17) dX6_handOver_17 (by decide) ?_
  show TT _ _ _ _ _ _ _ [(4, .inr o125), (3, .inr (some q122)), (0, .inr (some a0)), (1, .inl a1), (2, .inl a2)] _ _
  refine tt_aload (pc := 19) dX6_handOver_19 (.head _) ?_
  refine tt_ifnonnull (tgt := 26) (pc := 21) dX6_handOver_21 (by decide) (fun q127 z126 => ?_) (fun z126 => ?_)
  · have tq127 := to125 q127 z126
    subst z126
    refine tt_aload_n (pc := 26) dX6_handOver_26 (.tail _ (.head _)) ?_
    refine tw_callV (kc := 0) (ks := 0) (mc := 0) (ms := 0) (as := []) (st := []) (pc := 27) hw tq122 (by decide) dX6_handOver_27 lkX6_320 imX2_dropFirst seX2_dropFirst rfl rfl (by decide) (by decide) (Nat.le_of_ble_eq_true rfl) (g_X2_dropFirst hN2 hN8 hp0 hp64 hw q122 tq122) (fun rv h128 qh128 => ?_)
    obtain ⟨wh128, fh128, rfl⟩ := qh128
    have hfh128 := hf.tr fh128
    show TT _ _ _ _ _ _ _ _ [] _
    refine tt_aload (pc := 30) dX6_handOver_30 (.head _) ?_
    refine tw_geti (pc := 32) dX6_handOver_32 flX6_141 wh128 tq127 (by decide) rfl (fun f129 x130 ef129 gf129 lx130 ux130 => ?_)
    refine tw_if (tgt := 68) (pc := 35) dX6_handOver_35 (by decide) (fun (c131 : x130.toInt = 0) => ?_) (fun (c131 : ¬ (x130.toInt = 0)) => ?_)
    · skip
      refine tt_aload_n (pc := 68) dX6_handOver_68 (.tail _ (.tail _ (.head _))) ?_
      refine tw_getr (pc := 69) dX6_handOver_69 flX6_50 wh128 ta0 (by decide) rfl (fun f132 q133 ef132 gf132 tq133 => ?_)
      refine tt_iload_n (pc := 72) dX6_handOver_72 (.tail _ (.tail _ (.tail _ (.tail _ (.head _))))) ?_
      refine tw_if (tgt := 88) (pc := 73) dX6_handOver_73 (by decide) (fun (c134 : a2.toInt ≠ 0) => ?_) (fun (c134 : ¬ (a2.toInt ≠ 0)) => ?_)
      · skip
        refine tt_aload_n (pc := 88) dX6_handOver_88 (.tail _ (.tail _ (.head _))) ?_
        refine tw_getr (pc := 89) dX6_handOver_89 flX6_11 wh128 ta0 (by decide) rfl (fun f135 q136 ef135 gf135 tq136 => ?_)
        refine tt_iload_n (pc := 92) dX6_handOver_92 (.tail _ (.tail _ (.tail _ (.head _)))) ?_
        refine tw_ald (pc := 93) dX6_handOver_93 wh128 tq136 rfl (by decide) (by omega) (by omega) (fun f137 q138 ef137 gf137 tq138 => ?_)
        refine tw_geti (pc := 94) dX6_handOver_94 flX6_81 wh128 tq138 (by decide) rfl (fun f139 x140 ef139 gf139 lx140 ux140 => ?_)
        refine tw_ald (pc := 97) dX6_handOver_97 wh128 tq133 rfl (by decide) (by omega) (by omega) (fun f141 q142 ef141 gf141 tq142 => ?_)
        refine tt_astore (pc := 98) dX6_handOver_98 (by decide) ?_
        show TT _ _ _ _ _ _ _ [(5, .inr (some q142)), (4, .inr (some q127)), (3, .inr (some q122)), (0, .inr (some a0)), (1, .inl a1), (2, .inl a2)] _ _
        refine tw_iconst (pc := 100) dX6_handOver_100 (by decide) (fun x143 ex143 => ?_)
        refine tt_istore (pc := 101) dX6_handOver_101 (by decide) ?_
        show TT _ _ _ _ _ _ _ [(6, .inl x143), (5, .inr (some q142)), (4, .inr (some q127)), (3, .inr (some q122)), (0, .inr (some a0)), (1, .inl a1), (2, .inl a2)] _ _
        refine tt_aload (pc := 103) dX6_handOver_103 (.tail _ (.tail _ (.head _))) ?_
        refine tw_geti (pc := 105) dX6_handOver_105 flX6_246 wh128 tq127 (by decide) rfl (fun f144 x145 ef144 gf144 lx145 ux145 => ?_)
        by_cases s146 : x145.toInt = 0
        · refine tw_tableK (c := 0) (off := 32) (tgt := 140) (pc := 108) dX6_handOver_108 (by decide) s146 (by decide) (by decide) (by decide) (by decide) ?_
          refine tt_aload_n (pc := 140) dX6_handOver_140 (.tail _ (.tail _ (.tail _ (.tail _ (.head _))))) ?_
          refine tt_aload (pc := 141) dX6_handOver_141 (.tail _ (.head _)) ?_
          refine tt_iload_n (pc := 143) dX6_handOver_143 (.tail _ (.tail _ (.tail _ (.tail _ (.tail _ (.head _)))))) ?_
          refine tt_aload (pc := 144) dX6_handOver_144 (.tail _ (.tail _ (.head _))) ?_
          refine tw_getn (pc := 146) dX6_handOver_146 flX6_323 wh128 tq127 (by decide) rfl (fun f147 o148 ef147 gf147 to148 => ?_)
          refine tw_callV (kc := 0) (ks := 0) (mc := 0) (ms := 0) (as := [.inr (some q142), .inl a1, .inr o148]) (st := []) (pc := 149) wh128 ta0 (by decide) dX6_handOver_149 lkX6_327 imX6_noteComes seX6_noteComes rfl rfl (by decide) (by decide) (Nat.le_of_ble_eq_true rfl) (g_X6_noteComes hN2 hN8 hp0 hp64 wh128 a0 ta0 q142 tq142 a1 (by omega) (by omega) o148 to148) (fun rv h149 qh149 => ?_)
          obtain ⟨wh149, fh149, x150, rfl, lx150, ux150⟩ := qh149
          have hfh149 := hfh128.tr fh149
          show TT _ _ _ _ _ _ _ _ [.inl x150] _
          refine tt_istore (pc := 152) dX6_handOver_152 (by decide) ?_
          show TT _ _ _ _ _ _ _ [(6, .inl x150), (5, .inr (some q142)), (4, .inr (some q127)), (3, .inr (some q122)), (0, .inr (some a0)), (1, .inl a1), (2, .inl a2)] _ _
          refine tt_goto (tgt := 221) (pc := 154) dX6_handOver_154 (by decide) ?_
          refine tt_loc [(0, .inr (some a0)), (4, .inr (some q127)), (5, .inr (some q142)), (6, .inl x150)] (List.forall_mem_cons.mpr ⟨(.tail _ (.tail _ (.tail _ (.tail _ (.head _))))), List.forall_mem_cons.mpr ⟨(.tail _ (.tail _ (.head _))), List.forall_mem_cons.mpr ⟨(.tail _ (.head _)), List.forall_mem_cons.mpr ⟨(.head _), fun _ z => absurd z List.not_mem_nil⟩⟩⟩⟩) ?_
          exact B221 h149 wh149 hfh149 q127 tq127 q142 tq142 x150 (by omega) (by omega)
        by_cases s151 : x145.toInt = 1
        · refine tw_tableK (c := 1) (off := 49) (tgt := 157) (pc := 108) dX6_handOver_108 (by decide) s151 (by decide) (by decide) (by decide) (by decide) ?_
          refine tt_aload_n (pc := 157) dX6_handOver_157 (.tail _ (.tail _ (.tail _ (.tail _ (.head _))))) ?_
          refine tt_aload (pc := 158) dX6_handOver_158 (.tail _ (.head _)) ?_
          refine tt_iload_n (pc := 160) dX6_handOver_160 (.tail _ (.tail _ (.tail _ (.tail _ (.tail _ (.head _)))))) ?_
          refine tt_aload (pc := 161) dX6_handOver_161 (.tail _ (.tail _ (.head _))) ?_
          refine tw_callV (kc := 0) (ks := 0) (mc := 0) (ms := 0) (as := [.inr (some q142), .inl a1, .inr (some q127)]) (st := []) (pc := 163) wh128 ta0 (by decide) dX6_handOver_163 lkX6_331 imX6_mappingComes seX6_mappingComes rfl rfl (by decide) (by decide) (Nat.le_of_ble_eq_true rfl) (g_X6_mappingComes hN2 hN8 hp0 hp64 wh128 a0 ta0 q142 tq142 a1 (by omega) (by omega) q127 tq127 (fun fs9 x9 e9 g9 => by rw [ef144] at e9; cases e9; rw [gf144] at g9; cases g9; exact ⟨by omega, by omega⟩)) (fun rv h152 qh152 => ?_)
          obtain ⟨wh152, fh152, rfl⟩ := qh152
          have hfh152 := hfh128.tr fh152
          show TT _ _ _ _ _ _ _ _ [] _
          refine tt_goto (tgt := 221) (pc := 166) dX6_handOver_166 (by decide) ?_
          refine tt_loc [(0, .inr (some a0)), (4, .inr (some q127)), (5, .inr (some q142)), (6, .inl x143)] (List.forall_mem_cons.mpr ⟨(.tail _ (.tail _ (.tail _ (.tail _ (.head _))))), List.forall_mem_cons.mpr ⟨(.tail _ (.tail _ (.head _))), List.forall_mem_cons.mpr ⟨(.tail _ (.head _)), List.forall_mem_cons.mpr ⟨(.head _), fun _ z => absurd z List.not_mem_nil⟩⟩⟩⟩) ?_
          exact B221 h152 wh152 hfh152 q127 tq127 q142 tq142 x143 (by omega) (by omega)
        by_cases s153 : x145.toInt = 2
        · refine tw_tableK (c := 2) (off := 61) (tgt := 169) (pc := 108) dX6_handOver_108 (by decide) s153 (by decide) (by decide) (by decide) (by decide) ?_
          refine tt_aload_n (pc := 169) dX6_handOver_169 (.tail _ (.tail _ (.tail _ (.tail _ (.head _))))) ?_
          refine tt_aload (pc := 170) dX6_handOver_170 (.tail _ (.head _)) ?_
          refine tt_iload_n (pc := 172) dX6_handOver_172 (.tail _ (.tail _ (.tail _ (.tail _ (.tail _ (.head _)))))) ?_
          refine tt_aload (pc := 173) dX6_handOver_173 (.tail _ (.tail _ (.head _))) ?_
          refine tw_callV (kc := 0) (ks := 0) (mc := 0) (ms := 0) (as := [.inr (some q142), .inl a1, .inr (some q127)]) (st := []) (pc := 175) wh128 ta0 (by decide) dX6_handOver_175 lkX6_335 imX6_withdrawComes seX6_withdrawComes rfl rfl (by decide) (by decide) (Nat.le_of_ble_eq_true rfl) (g_X6_withdrawComes hN2 hN8 hp0 hp64 wh128 a0 ta0 q142 tq142 a1 (by omega) (by omega) q127 tq127 (fun fs9 x9 e9 g9 => by rw [ef144] at e9; cases e9; rw [gf144] at g9; cases g9; exact ⟨by omega, by omega⟩)) (fun rv h154 qh154 => ?_)
          obtain ⟨wh154, fh154, rfl⟩ := qh154
          have hfh154 := hfh128.tr fh154
          show TT _ _ _ _ _ _ _ _ [] _
          refine tt_goto (tgt := 221) (pc := 178) dX6_handOver_178 (by decide) ?_
          refine tt_loc [(0, .inr (some a0)), (4, .inr (some q127)), (5, .inr (some q142)), (6, .inl x143)] (List.forall_mem_cons.mpr ⟨(.tail _ (.tail _ (.tail _ (.tail _ (.head _))))), List.forall_mem_cons.mpr ⟨(.tail _ (.tail _ (.head _))), List.forall_mem_cons.mpr ⟨(.tail _ (.head _)), List.forall_mem_cons.mpr ⟨(.head _), fun _ z => absurd z List.not_mem_nil⟩⟩⟩⟩) ?_
          exact B221 h154 wh154 hfh154 q127 tq127 q142 tq142 x143 (by omega) (by omega)
        by_cases s155 : x145.toInt = 3
        · refine tw_tableK (c := 3) (off := 73) (tgt := 181) (pc := 108) dX6_handOver_108 (by decide) s155 (by decide) (by decide) (by decide) (by decide) ?_
          refine tt_aload (pc := 181) dX6_handOver_181 (.tail _ (.head _)) ?_
          refine tt_aload (pc := 183) dX6_handOver_183 (.tail _ (.tail _ (.head _))) ?_
          refine tw_subj7 (pc := 185) dX6_handOver_185 flX6_176 wh128 tq127 (fun fs8 x8 e8 g8 => by have kq : 3 ≤ x8.toInt ∧ x8.toInt ≤ 3 := (fun fs9 x9 e9 g9 => by rw [ef144] at e9; cases e9; rw [gf144] at g9; cases g9; exact ⟨by omega, by omega⟩) fs8 x8 e8 g8; omega) (fun f156 x157 ef156 gf156 lx157 ux157 => ?_)
          refine tt_aload (pc := 188) dX6_handOver_188 (.tail _ (.tail _ (.head _))) ?_
          refine tw_geti (pc := 190) dX6_handOver_190 flX6_179 wh128 tq127 (by decide) rfl (fun f158 x159 ef158 gf158 lx159 ux159 => ?_)
          refine tt_iload_n (pc := 193) dX6_handOver_193 (.tail _ (.tail _ (.tail _ (.tail _ (.tail _ (.head _)))))) ?_
          refine tw_callV (kc := 0) (ks := 0) (mc := 0) (ms := 0) (as := [.inl x157, .inl x159, .inl a1]) (st := []) (pc := 194) wh128 tq142 (by decide) dX6_handOver_194 lkX6_338 imX4_releaseCounts seX4_releaseCounts rfl rfl (by decide) (by decide) (Nat.le_of_ble_eq_true rfl) (g_X4_releaseCounts hN2 hN8 hp0 hp64 wh128 q142 tq142 x157 x159 a1) (fun rv h160 qh160 => ?_)
          obtain ⟨wh160, fh160, x161, rfl, lx161, ux161⟩ := qh160
          have hfh160 := hfh128.tr fh160
          show TT _ _ _ _ _ _ _ _ [.inl x161] _
          refine tt_istore (pc := 197) dX6_handOver_197 (by decide) ?_
          show TT _ _ _ _ _ _ _ [(6, .inl x161), (5, .inr (some q142)), (4, .inr (some q127)), (3, .inr (some q122)), (0, .inr (some a0)), (1, .inl a1), (2, .inl a2)] _ _
          refine tt_goto (tgt := 221) (pc := 199) dX6_handOver_199 (by decide) ?_
          refine tt_loc [(0, .inr (some a0)), (4, .inr (some q127)), (5, .inr (some q142)), (6, .inl x161)] (List.forall_mem_cons.mpr ⟨(.tail _ (.tail _ (.tail _ (.tail _ (.head _))))), List.forall_mem_cons.mpr ⟨(.tail _ (.tail _ (.head _))), List.forall_mem_cons.mpr ⟨(.tail _ (.head _)), List.forall_mem_cons.mpr ⟨(.head _), fun _ z => absurd z List.not_mem_nil⟩⟩⟩⟩) ?_
          exact B221 h160 wh160 hfh160 q127 tq127 q142 tq142 x161 (by omega) (by omega)
        refine tw_tableD (tgt := 202) (pc := 108) dX6_handOver_108 (by decide) (by omega) (by decide) ?_
        refine tw_iconst (pc := 202) dX6_handOver_202 (by decide) (fun x162 ex162 => ?_)
        refine tt_istore (pc := 203) dX6_handOver_203 (by decide) ?_
        show TT _ _ _ _ _ _ _ [(6, .inl x162), (5, .inr (some q142)), (4, .inr (some q127)), (3, .inr (some q122)), (0, .inr (some a0)), (1, .inl a1), (2, .inl a2)] _ _
        refine tt_aload_n (pc := 205) dX6_handOver_205 (.tail _ (.tail _ (.tail _ (.tail _ (.head _))))) ?_
        refine tt_aload (pc := 206) dX6_handOver_206 (.tail _ (.head _)) ?_
        refine tt_aload (pc := 208) dX6_handOver_208 (.tail _ (.tail _ (.head _))) ?_
        refine tw_subjp (pc := 210) dX6_handOver_210 flX6_176 wh128 tq127 (fun fs8 x8 e8 g8 => by have kq : 4 ≤ x8.toInt ∧ x8.toInt ≤ 4 := (fun fs9 x9 e9 g9 => by rw [ef144] at e9; cases e9; rw [gf144] at g9; cases g9; exact ⟨by omega, by omega⟩) fs8 x8 e8 g8; omega) (fun f163 x164 ef163 gf163 lx164 ux164 => ?_)
        refine tt_aload (pc := 213) dX6_handOver_213 (.tail _ (.tail _ (.head _))) ?_
        refine tw_geti (pc := 215) dX6_handOver_215 flX6_179 wh128 tq127 (by decide) rfl (fun f165 x166 ef165 gf165 lx166 ux166 => ?_)
        refine tw_callV (kc := 0) (ks := 0) (mc := 0) (ms := 0) (as := [.inr (some q142), .inl x164, .inl x166]) (st := []) (pc := 218) wh128 ta0 (by decide) dX6_handOver_218 lkX6_151 imX6_packetComes seX6_packetComes rfl rfl (by decide) (by decide) (Nat.le_of_ble_eq_true rfl) (g_X6_packetComes hN2 hN8 hp0 hp64 wh128 a0 ta0 q142 tq142 x164 (by omega) (by omega) x166) (fun rv h167 qh167 => ?_)
        obtain ⟨wh167, fh167, rfl⟩ := qh167
        have hfh167 := hfh128.tr fh167
        show TT _ _ _ _ _ _ _ _ [] _
        refine tt_loc [(0, .inr (some a0)), (4, .inr (some q127)), (5, .inr (some q142)), (6, .inl x162)] (List.forall_mem_cons.mpr ⟨(.tail _ (.tail _ (.tail _ (.tail _ (.head _))))), List.forall_mem_cons.mpr ⟨(.tail _ (.tail _ (.head _))), List.forall_mem_cons.mpr ⟨(.tail _ (.head _)), List.forall_mem_cons.mpr ⟨(.head _), fun _ z => absurd z List.not_mem_nil⟩⟩⟩⟩) ?_
        exact B221 h167 wh167 hfh167 q127 tq127 q142 tq142 x162 (by omega) (by omega)
      · skip
        refine tt_aload_n (pc := 76) dX6_handOver_76 (.tail _ (.tail _ (.head _))) ?_
        refine tw_getr (pc := 77) dX6_handOver_77 flX6_11 wh128 ta0 (by decide) rfl (fun f168 q169 ef168 gf168 tq169 => ?_)
        refine tt_iload_n (pc := 80) dX6_handOver_80 (.tail _ (.tail _ (.tail _ (.head _)))) ?_
        refine tw_ald (pc := 81) dX6_handOver_81 wh128 tq169 rfl (by decide) (by omega) (by omega) (fun f170 q171 ef170 gf170 tq171 => ?_)
        refine tw_geti (pc := 82) dX6_handOver_82 flX6_84 wh128 tq171 (by decide) rfl (fun f172 x173 ef172 gf172 lx173 ux173 => ?_)
        refine tt_goto (tgt := 97) (pc := 85) dX6_handOver_85 (by decide) ?_
        refine tw_ald (pc := 97) dX6_handOver_97 wh128 tq133 rfl (by decide) (by omega) (by omega) (fun f174 q175 ef174 gf174 tq175 => ?_)
        refine tt_astore (pc := 98) dX6_handOver_98 (by decide) ?_
        show TT _ _ _ _ _ _ _ [(5, .inr (some q175)), (4, .inr (some q127)), (3, .inr (some q122)), (0, .inr (some a0)), (1, .inl a1), (2, .inl a2)] _ _
        refine tw_iconst (pc := 100) dX6_handOver_100 (by decide) (fun x176 ex176 => ?_)
        refine tt_istore (pc := 101) dX6_handOver_101 (by decide) ?_
        show TT _ _ _ _ _ _ _ [(6, .inl x176), (5, .inr (some q175)), (4, .inr (some q127)), (3, .inr (some q122)), (0, .inr (some a0)), (1, .inl a1), (2, .inl a2)] _ _
        refine tt_aload (pc := 103) dX6_handOver_103 (.tail _ (.tail _ (.head _))) ?_
        refine tw_geti (pc := 105) dX6_handOver_105 flX6_246 wh128 tq127 (by decide) rfl (fun f177 x178 ef177 gf177 lx178 ux178 => ?_)
        by_cases s179 : x178.toInt = 0
        · refine tw_tableK (c := 0) (off := 32) (tgt := 140) (pc := 108) dX6_handOver_108 (by decide) s179 (by decide) (by decide) (by decide) (by decide) ?_
          refine tt_aload_n (pc := 140) dX6_handOver_140 (.tail _ (.tail _ (.tail _ (.tail _ (.head _))))) ?_
          refine tt_aload (pc := 141) dX6_handOver_141 (.tail _ (.head _)) ?_
          refine tt_iload_n (pc := 143) dX6_handOver_143 (.tail _ (.tail _ (.tail _ (.tail _ (.tail _ (.head _)))))) ?_
          refine tt_aload (pc := 144) dX6_handOver_144 (.tail _ (.tail _ (.head _))) ?_
          refine tw_getn (pc := 146) dX6_handOver_146 flX6_323 wh128 tq127 (by decide) rfl (fun f180 o181 ef180 gf180 to181 => ?_)
          refine tw_callV (kc := 0) (ks := 0) (mc := 0) (ms := 0) (as := [.inr (some q175), .inl a1, .inr o181]) (st := []) (pc := 149) wh128 ta0 (by decide) dX6_handOver_149 lkX6_327 imX6_noteComes seX6_noteComes rfl rfl (by decide) (by decide) (Nat.le_of_ble_eq_true rfl) (g_X6_noteComes hN2 hN8 hp0 hp64 wh128 a0 ta0 q175 tq175 a1 (by omega) (by omega) o181 to181) (fun rv h182 qh182 => ?_)
          obtain ⟨wh182, fh182, x183, rfl, lx183, ux183⟩ := qh182
          have hfh182 := hfh128.tr fh182
          show TT _ _ _ _ _ _ _ _ [.inl x183] _
          refine tt_istore (pc := 152) dX6_handOver_152 (by decide) ?_
          show TT _ _ _ _ _ _ _ [(6, .inl x183), (5, .inr (some q175)), (4, .inr (some q127)), (3, .inr (some q122)), (0, .inr (some a0)), (1, .inl a1), (2, .inl a2)] _ _
          refine tt_goto (tgt := 221) (pc := 154) dX6_handOver_154 (by decide) ?_
          refine tt_loc [(0, .inr (some a0)), (4, .inr (some q127)), (5, .inr (some q175)), (6, .inl x183)] (List.forall_mem_cons.mpr ⟨(.tail _ (.tail _ (.tail _ (.tail _ (.head _))))), List.forall_mem_cons.mpr ⟨(.tail _ (.tail _ (.head _))), List.forall_mem_cons.mpr ⟨(.tail _ (.head _)), List.forall_mem_cons.mpr ⟨(.head _), fun _ z => absurd z List.not_mem_nil⟩⟩⟩⟩) ?_
          exact B221 h182 wh182 hfh182 q127 tq127 q175 tq175 x183 (by omega) (by omega)
        by_cases s184 : x178.toInt = 1
        · refine tw_tableK (c := 1) (off := 49) (tgt := 157) (pc := 108) dX6_handOver_108 (by decide) s184 (by decide) (by decide) (by decide) (by decide) ?_
          refine tt_aload_n (pc := 157) dX6_handOver_157 (.tail _ (.tail _ (.tail _ (.tail _ (.head _))))) ?_
          refine tt_aload (pc := 158) dX6_handOver_158 (.tail _ (.head _)) ?_
          refine tt_iload_n (pc := 160) dX6_handOver_160 (.tail _ (.tail _ (.tail _ (.tail _ (.tail _ (.head _)))))) ?_
          refine tt_aload (pc := 161) dX6_handOver_161 (.tail _ (.tail _ (.head _))) ?_
          refine tw_callV (kc := 0) (ks := 0) (mc := 0) (ms := 0) (as := [.inr (some q175), .inl a1, .inr (some q127)]) (st := []) (pc := 163) wh128 ta0 (by decide) dX6_handOver_163 lkX6_331 imX6_mappingComes seX6_mappingComes rfl rfl (by decide) (by decide) (Nat.le_of_ble_eq_true rfl) (g_X6_mappingComes hN2 hN8 hp0 hp64 wh128 a0 ta0 q175 tq175 a1 (by omega) (by omega) q127 tq127 (fun fs9 x9 e9 g9 => by rw [ef177] at e9; cases e9; rw [gf177] at g9; cases g9; exact ⟨by omega, by omega⟩)) (fun rv h185 qh185 => ?_)
          obtain ⟨wh185, fh185, rfl⟩ := qh185
          have hfh185 := hfh128.tr fh185
          show TT _ _ _ _ _ _ _ _ [] _
          refine tt_goto (tgt := 221) (pc := 166) dX6_handOver_166 (by decide) ?_
          refine tt_loc [(0, .inr (some a0)), (4, .inr (some q127)), (5, .inr (some q175)), (6, .inl x176)] (List.forall_mem_cons.mpr ⟨(.tail _ (.tail _ (.tail _ (.tail _ (.head _))))), List.forall_mem_cons.mpr ⟨(.tail _ (.tail _ (.head _))), List.forall_mem_cons.mpr ⟨(.tail _ (.head _)), List.forall_mem_cons.mpr ⟨(.head _), fun _ z => absurd z List.not_mem_nil⟩⟩⟩⟩) ?_
          exact B221 h185 wh185 hfh185 q127 tq127 q175 tq175 x176 (by omega) (by omega)
        by_cases s186 : x178.toInt = 2
        · refine tw_tableK (c := 2) (off := 61) (tgt := 169) (pc := 108) dX6_handOver_108 (by decide) s186 (by decide) (by decide) (by decide) (by decide) ?_
          refine tt_aload_n (pc := 169) dX6_handOver_169 (.tail _ (.tail _ (.tail _ (.tail _ (.head _))))) ?_
          refine tt_aload (pc := 170) dX6_handOver_170 (.tail _ (.head _)) ?_
          refine tt_iload_n (pc := 172) dX6_handOver_172 (.tail _ (.tail _ (.tail _ (.tail _ (.tail _ (.head _)))))) ?_
          refine tt_aload (pc := 173) dX6_handOver_173 (.tail _ (.tail _ (.head _))) ?_
          refine tw_callV (kc := 0) (ks := 0) (mc := 0) (ms := 0) (as := [.inr (some q175), .inl a1, .inr (some q127)]) (st := []) (pc := 175) wh128 ta0 (by decide) dX6_handOver_175 lkX6_335 imX6_withdrawComes seX6_withdrawComes rfl rfl (by decide) (by decide) (Nat.le_of_ble_eq_true rfl) (g_X6_withdrawComes hN2 hN8 hp0 hp64 wh128 a0 ta0 q175 tq175 a1 (by omega) (by omega) q127 tq127 (fun fs9 x9 e9 g9 => by rw [ef177] at e9; cases e9; rw [gf177] at g9; cases g9; exact ⟨by omega, by omega⟩)) (fun rv h187 qh187 => ?_)
          obtain ⟨wh187, fh187, rfl⟩ := qh187
          have hfh187 := hfh128.tr fh187
          show TT _ _ _ _ _ _ _ _ [] _
          refine tt_goto (tgt := 221) (pc := 178) dX6_handOver_178 (by decide) ?_
          refine tt_loc [(0, .inr (some a0)), (4, .inr (some q127)), (5, .inr (some q175)), (6, .inl x176)] (List.forall_mem_cons.mpr ⟨(.tail _ (.tail _ (.tail _ (.tail _ (.head _))))), List.forall_mem_cons.mpr ⟨(.tail _ (.tail _ (.head _))), List.forall_mem_cons.mpr ⟨(.tail _ (.head _)), List.forall_mem_cons.mpr ⟨(.head _), fun _ z => absurd z List.not_mem_nil⟩⟩⟩⟩) ?_
          exact B221 h187 wh187 hfh187 q127 tq127 q175 tq175 x176 (by omega) (by omega)
        by_cases s188 : x178.toInt = 3
        · refine tw_tableK (c := 3) (off := 73) (tgt := 181) (pc := 108) dX6_handOver_108 (by decide) s188 (by decide) (by decide) (by decide) (by decide) ?_
          refine tt_aload (pc := 181) dX6_handOver_181 (.tail _ (.head _)) ?_
          refine tt_aload (pc := 183) dX6_handOver_183 (.tail _ (.tail _ (.head _))) ?_
          refine tw_subj7 (pc := 185) dX6_handOver_185 flX6_176 wh128 tq127 (fun fs8 x8 e8 g8 => by have kq : 3 ≤ x8.toInt ∧ x8.toInt ≤ 3 := (fun fs9 x9 e9 g9 => by rw [ef177] at e9; cases e9; rw [gf177] at g9; cases g9; exact ⟨by omega, by omega⟩) fs8 x8 e8 g8; omega) (fun f189 x190 ef189 gf189 lx190 ux190 => ?_)
          refine tt_aload (pc := 188) dX6_handOver_188 (.tail _ (.tail _ (.head _))) ?_
          refine tw_geti (pc := 190) dX6_handOver_190 flX6_179 wh128 tq127 (by decide) rfl (fun f191 x192 ef191 gf191 lx192 ux192 => ?_)
          refine tt_iload_n (pc := 193) dX6_handOver_193 (.tail _ (.tail _ (.tail _ (.tail _ (.tail _ (.head _)))))) ?_
          refine tw_callV (kc := 0) (ks := 0) (mc := 0) (ms := 0) (as := [.inl x190, .inl x192, .inl a1]) (st := []) (pc := 194) wh128 tq175 (by decide) dX6_handOver_194 lkX6_338 imX4_releaseCounts seX4_releaseCounts rfl rfl (by decide) (by decide) (Nat.le_of_ble_eq_true rfl) (g_X4_releaseCounts hN2 hN8 hp0 hp64 wh128 q175 tq175 x190 x192 a1) (fun rv h193 qh193 => ?_)
          obtain ⟨wh193, fh193, x194, rfl, lx194, ux194⟩ := qh193
          have hfh193 := hfh128.tr fh193
          show TT _ _ _ _ _ _ _ _ [.inl x194] _
          refine tt_istore (pc := 197) dX6_handOver_197 (by decide) ?_
          show TT _ _ _ _ _ _ _ [(6, .inl x194), (5, .inr (some q175)), (4, .inr (some q127)), (3, .inr (some q122)), (0, .inr (some a0)), (1, .inl a1), (2, .inl a2)] _ _
          refine tt_goto (tgt := 221) (pc := 199) dX6_handOver_199 (by decide) ?_
          refine tt_loc [(0, .inr (some a0)), (4, .inr (some q127)), (5, .inr (some q175)), (6, .inl x194)] (List.forall_mem_cons.mpr ⟨(.tail _ (.tail _ (.tail _ (.tail _ (.head _))))), List.forall_mem_cons.mpr ⟨(.tail _ (.tail _ (.head _))), List.forall_mem_cons.mpr ⟨(.tail _ (.head _)), List.forall_mem_cons.mpr ⟨(.head _), fun _ z => absurd z List.not_mem_nil⟩⟩⟩⟩) ?_
          exact B221 h193 wh193 hfh193 q127 tq127 q175 tq175 x194 (by omega) (by omega)
        refine tw_tableD (tgt := 202) (pc := 108) dX6_handOver_108 (by decide) (by omega) (by decide) ?_
        refine tw_iconst (pc := 202) dX6_handOver_202 (by decide) (fun x195 ex195 => ?_)
        refine tt_istore (pc := 203) dX6_handOver_203 (by decide) ?_
        show TT _ _ _ _ _ _ _ [(6, .inl x195), (5, .inr (some q175)), (4, .inr (some q127)), (3, .inr (some q122)), (0, .inr (some a0)), (1, .inl a1), (2, .inl a2)] _ _
        refine tt_aload_n (pc := 205) dX6_handOver_205 (.tail _ (.tail _ (.tail _ (.tail _ (.head _))))) ?_
        refine tt_aload (pc := 206) dX6_handOver_206 (.tail _ (.head _)) ?_
        refine tt_aload (pc := 208) dX6_handOver_208 (.tail _ (.tail _ (.head _))) ?_
        refine tw_subjp (pc := 210) dX6_handOver_210 flX6_176 wh128 tq127 (fun fs8 x8 e8 g8 => by have kq : 4 ≤ x8.toInt ∧ x8.toInt ≤ 4 := (fun fs9 x9 e9 g9 => by rw [ef177] at e9; cases e9; rw [gf177] at g9; cases g9; exact ⟨by omega, by omega⟩) fs8 x8 e8 g8; omega) (fun f196 x197 ef196 gf196 lx197 ux197 => ?_)
        refine tt_aload (pc := 213) dX6_handOver_213 (.tail _ (.tail _ (.head _))) ?_
        refine tw_geti (pc := 215) dX6_handOver_215 flX6_179 wh128 tq127 (by decide) rfl (fun f198 x199 ef198 gf198 lx199 ux199 => ?_)
        refine tw_callV (kc := 0) (ks := 0) (mc := 0) (ms := 0) (as := [.inr (some q175), .inl x197, .inl x199]) (st := []) (pc := 218) wh128 ta0 (by decide) dX6_handOver_218 lkX6_151 imX6_packetComes seX6_packetComes rfl rfl (by decide) (by decide) (Nat.le_of_ble_eq_true rfl) (g_X6_packetComes hN2 hN8 hp0 hp64 wh128 a0 ta0 q175 tq175 x197 (by omega) (by omega) x199) (fun rv h200 qh200 => ?_)
        obtain ⟨wh200, fh200, rfl⟩ := qh200
        have hfh200 := hfh128.tr fh200
        show TT _ _ _ _ _ _ _ _ [] _
        refine tt_loc [(0, .inr (some a0)), (4, .inr (some q127)), (5, .inr (some q175)), (6, .inl x195)] (List.forall_mem_cons.mpr ⟨(.tail _ (.tail _ (.tail _ (.tail _ (.head _))))), List.forall_mem_cons.mpr ⟨(.tail _ (.tail _ (.head _))), List.forall_mem_cons.mpr ⟨(.tail _ (.head _)), List.forall_mem_cons.mpr ⟨(.head _), fun _ z => absurd z List.not_mem_nil⟩⟩⟩⟩) ?_
        exact B221 h200 wh200 hfh200 q127 tq127 q175 tq175 x195 (by omega) (by omega)
    · skip
      refine tt_aload (pc := 38) dX6_handOver_38 (.head _) ?_
      refine tw_geti (pc := 40) dX6_handOver_40 flX6_246 wh128 tq127 (by decide) rfl (fun f201 x202 ef201 gf201 lx202 ux202 => ?_)
      refine tw_iconst (pc := 43) dX6_handOver_43 (by decide) (fun x203 ex203 => ?_)
      refine tw_icmp (tgt := 62) (pc := 44) dX6_handOver_44 (by decide) (fun (c204 : x202.toInt ≠ x203.toInt) => ?_) (fun (c204 : ¬ (x202.toInt ≠ x203.toInt)) => ?_)
      · skip
        refine tt_loc [(4, .inr (some q127))] (List.forall_mem_cons.mpr ⟨(.head _), fun _ z => absurd z List.not_mem_nil⟩) ?_
        exact B62 h128 wh128 hfh128 q127 tq127
      · skip
        refine tt_aload_n (pc := 47) dX6_handOver_47 (.tail _ (.tail _ (.head _))) ?_
        refine tw_getr (pc := 48) dX6_handOver_48 flX6_21 wh128 ta0 (by decide) rfl (fun f205 q206 ef205 gf205 tq206 => ?_)
        refine tt_aload (pc := 51) dX6_handOver_51 (.head _) ?_
        refine tw_subjp (pc := 53) dX6_handOver_53 flX6_176 wh128 tq127 (fun fs8 x8 e8 g8 => by have kq : 4 ≤ x8.toInt ∧ x8.toInt ≤ 4 := (fun fs9 x9 e9 g9 => by rw [ef201] at e9; cases e9; rw [gf201] at g9; cases g9; exact ⟨by omega, by omega⟩) fs8 x8 e8 g8; omega) (fun f207 x208 ef207 gf207 lx208 ux208 => ?_)
        refine tw_aldp (pc := 56) dX6_handOver_56 wh128 tq206 (by omega) (by omega) (by omega) (fun f209 q210 ef209 gf209 tq210 => ?_)
        refine tw_bipush (pc := 57) dX6_handOver_57 (by decide) (fun x211 ex211 => ?_)
        refine tw_put (P := PX) (pc := 59) dX6_handOver_59 flX6_155 wh128 tq210 (by decide) rfl ⟨by omega, by omega⟩ rfl (by decide) (by decide) (fun f212 h213 eh213 gh213 kh213 wh213 fh213 => ?_)
        have hfh213 := hfh128.tr fh213
        refine tt_loc [(4, .inr (some q127))] (List.forall_mem_cons.mpr ⟨(.head _), fun _ z => absurd z List.not_mem_nil⟩) ?_
        exact B62 h213 wh213 hfh213 q127 tq127
  · subst z126
    refine tw_iconst (pc := 24) dX6_handOver_24 (by decide) (fun x214 ex214 => ?_)
    refine tt_stop ?_
    rw [hQ]
    exact Or.inr (Or.inl ⟨x214, dX6_handOver_25, rfl, Or.inl rfl, hw, hf, x214, rfl, by omega, by omega⟩)
