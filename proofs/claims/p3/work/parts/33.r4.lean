abbrev mX7_packet : tM := (RX7, cX7_packet, 3, 1, 21, false)
set_option maxHeartbeats 4000000 in
theorem g_X7_packet {l : Launch} {D : va_G} {N : Nat} {pk : Int} {τ : List Nat} (hN2 : 2 ≤ N) (hN8 : N ≤ 8) (hp0 : 0 ≤ pk) (hp64 : pk ≤ 64) {h : List tC} (hw : WT N pk τ h) (a0 : Nat) (ta0 : τ[a0]? = some 7) (a1 : Int32) (a2 : Int32) : TMc l D yX7_packet cX7_packet 3 (some .int) 1 21 0 0 [.inr (some a0), .inl a1, .inl a2] h (fun rv h' => WT N pk τ h' ∧ Fr PMko τ h h' ∧ ∃ x : Int32, rv = some (.inl x) ∧ -2147483648 ≤ x.toInt ∧ x.toInt ≤ 2147483647) := by
  refine tmc_of false rfl (by decide) (Nat.le_of_ble_eq_true rfl) ?_
  suffices HQ : ∀ Q0, Q0 = tRt cX7_packet (some .int) (fun rv h' => WT N pk τ h' ∧ Fr PMko τ h h' ∧ ∃ x : Int32, rv = some (.inl x) ∧ -2147483648 ≤ x.toInt ∧ x.toInt ≤ 2147483647) → TT l D mX7_packet Q0 0 0 0 [(0, .inr (some a0)), (1, .inl a1), (2, .inl a2)] [] h from HQ _ rfl
  intro Q0 hQ
  have hf : Fr PMko τ h h := Fr.rf
  have ba1 := i_ty a1
  have ba2 := i_ty a2
  refine tt_aload_n (pc := 0) dX7_packet_0 (.head _) ?_
  refine tw_iconst (pc := 1) dX7_packet_1 (by decide) (fun x33 ex33 => ?_)
  refine tw_put (P := PMko) (pc := 2) dX7_packet_2 flX7_96 hw ta0 (by decide) rfl ⟨by omega, by omega⟩ rfl (by decide) (by decide) (fun f34 h35 eh35 gh35 kh35 wh35 fh35 => ?_)
  have hfh35 := hf.tr fh35
  refine tt_iload_n (pc := 5) dX7_packet_5 (.tail _ (.head _)) ?_
  refine tt_aload_n (pc := 6) dX7_packet_6 (.head _) ?_
  refine tw_geti (pc := 7) dX7_packet_7 flX7_218 wh35 ta0 (by decide) rfl (fun f36 x37 ef36 gf36 lx37 ux37 => ?_)
  refine tt_callS (kc := 0) (ks := 0) (mc := 0) (ms := 0) (as := [.inl a1, .inl x37]) (st := []) (pc := 10) dX7_packet_10 lkX7_99 smX7_in rfl (by decide) (by decide) (Nat.le_of_ble_eq_true rfl) (g_X7_in hN2 hN8 hp0 hp64 wh35 a1 x37) (fun rv h38 qh38 => ?_)
  obtain ⟨rfl, x39, rfl, lx39, ux39, Gx39, Zx39⟩ := qh38
  show TT _ _ _ _ _ _ _ _ [.inl x39] _
  refine tw_if (tgt := 18) (pc := 13) dX7_packet_13 (by decide) (fun (c42 : x39.toInt ≠ 0) => ?_) (fun (c42 : ¬ (x39.toInt ≠ 0)) => ?_)
  · skip
    obtain ⟨b40, b41⟩ := Gx39 (by omega)
    refine tt_iload_n (pc := 18) dX7_packet_18 (.tail _ (.tail _ (.head _))) ?_
    by_cases s43 : a2.toInt = 0
    · refine tw_tableK (c := 0) (off := 33) (tgt := 52) (pc := 19) dX7_packet_19 (by decide) s43 (by decide) (by decide) (by decide) (by decide) ?_
      refine tt_aload_n (pc := 52) dX7_packet_52 (.head _) ?_
      refine tw_getr (pc := 53) dX7_packet_53 flX7_83 wh35 ta0 (by decide) rfl (fun f44 q45 ef44 gf44 tq45 => ?_)
      refine tt_iload_n (pc := 56) dX7_packet_56 (.tail _ (.head _)) ?_
      refine tw_ild (pc := 57) dX7_packet_57 wh35 tq45 rfl (by omega) (by omega) (fun f47 x46 ef47 gf47 lx46 ux46 => ?_)
      refine tt_stop ?_
      rw [hQ]
      exact Or.inr (Or.inl ⟨x46, dX7_packet_58, rfl, Or.inl rfl, wh35, hfh35, x46, rfl, by omega, by omega⟩)
    by_cases s48 : a2.toInt = 1
    · refine tw_tableK (c := 1) (off := 40) (tgt := 59) (pc := 19) dX7_packet_19 (by decide) s48 (by decide) (by decide) (by decide) (by decide) ?_
      refine tt_aload_n (pc := 59) dX7_packet_59 (.head _) ?_
      refine tw_getr (pc := 60) dX7_packet_60 flX7_80 wh35 ta0 (by decide) rfl (fun f49 q50 ef49 gf49 tq50 => ?_)
      refine tt_iload_n (pc := 63) dX7_packet_63 (.tail _ (.head _)) ?_
      refine tw_ild (pc := 64) dX7_packet_64 wh35 tq50 rfl (by omega) (by omega) (fun f52 x51 ef52 gf52 lx51 ux51 => ?_)
      refine tt_stop ?_
      rw [hQ]
      exact Or.inr (Or.inl ⟨x51, dX7_packet_65, rfl, Or.inl rfl, wh35, hfh35, x51, rfl, by omega, by omega⟩)
    by_cases s53 : a2.toInt = 2
    · refine tw_tableK (c := 2) (off := 47) (tgt := 66) (pc := 19) dX7_packet_19 (by decide) s53 (by decide) (by decide) (by decide) (by decide) ?_
      refine tt_aload_n (pc := 66) dX7_packet_66 (.head _) ?_
      refine tw_getr (pc := 67) dX7_packet_67 flX7_77 wh35 ta0 (by decide) rfl (fun f54 q55 ef54 gf54 tq55 => ?_)
      refine tt_iload_n (pc := 70) dX7_packet_70 (.tail _ (.head _)) ?_
      refine tw_ild (pc := 71) dX7_packet_71 wh35 tq55 rfl (by omega) (by omega) (fun f57 x56 ef57 gf57 lx56 ux56 => ?_)
      refine tt_stop ?_
      rw [hQ]
      exact Or.inr (Or.inl ⟨x56, dX7_packet_72, rfl, Or.inl rfl, wh35, hfh35, x56, rfl, by omega, by omega⟩)
    by_cases s58 : a2.toInt = 3
    · refine tw_tableK (c := 3) (off := 54) (tgt := 73) (pc := 19) dX7_packet_19 (by decide) s58 (by decide) (by decide) (by decide) (by decide) ?_
      refine tt_aload_n (pc := 73) dX7_packet_73 (.head _) ?_
      refine tw_getr (pc := 74) dX7_packet_74 flX7_86 wh35 ta0 (by decide) rfl (fun f59 q60 ef59 gf59 tq60 => ?_)
      refine tt_iload_n (pc := 77) dX7_packet_77 (.tail _ (.head _)) ?_
      refine tw_ild (pc := 78) dX7_packet_78 wh35 tq60 rfl (by omega) (by omega) (fun f62 x61 ef62 gf62 lx61 ux61 => ?_)
      refine tt_stop ?_
      rw [hQ]
      exact Or.inr (Or.inl ⟨x61, dX7_packet_79, rfl, Or.inl rfl, wh35, hfh35, x61, rfl, by omega, by omega⟩)
    by_cases s63 : a2.toInt = 4
    · refine tw_tableK (c := 4) (off := 61) (tgt := 80) (pc := 19) dX7_packet_19 (by decide) s63 (by decide) (by decide) (by decide) (by decide) ?_
      refine tt_aload_n (pc := 80) dX7_packet_80 (.head _) ?_
      refine tw_getr (pc := 81) dX7_packet_81 flX7_74 wh35 ta0 (by decide) rfl (fun f64 q65 ef64 gf64 tq65 => ?_)
      refine tt_iload_n (pc := 84) dX7_packet_84 (.tail _ (.head _)) ?_
      refine tw_ild (pc := 85) dX7_packet_85 wh35 tq65 rfl (by omega) (by omega) (fun f67 x66 ef67 gf67 lx66 ux66 => ?_)
      refine tt_stop ?_
      rw [hQ]
      exact Or.inr (Or.inl ⟨x66, dX7_packet_86, rfl, Or.inl rfl, wh35, hfh35, x66, rfl, by omega, by omega⟩)
    refine tw_tableD (tgt := 87) (pc := 19) dX7_packet_19 (by decide) (by omega) (by decide) ?_
    refine tw_iconst (pc := 87) dX7_packet_87 (by decide) (fun x68 ex68 => ?_)
    refine tt_stop ?_
    rw [hQ]
    exact Or.inr (Or.inl ⟨x68, dX7_packet_88, rfl, Or.inl rfl, wh35, hfh35, x68, rfl, by omega, by omega⟩)
  · skip
    refine tw_iconst (pc := 16) dX7_packet_16 (by decide) (fun x69 ex69 => ?_)
    refine tt_stop ?_
    rw [hQ]
    exact Or.inr (Or.inl ⟨x69, dX7_packet_17, rfl, Or.inl rfl, wh35, hfh35, x69, rfl, by omega, by omega⟩)
abbrev mX7_queue : tM := (RX7, cX7_queue, 6, 2, 42, false)
set_option maxHeartbeats 4000000 in
theorem g_X7_queue {l : Launch} {D : va_G} {N : Nat} {pk : Int} {τ : List Nat} (hN2 : 2 ≤ N) (hN8 : N ≤ 8) (hp0 : 0 ≤ pk) (hp64 : pk ≤ 64) {h : List tC} (hw : WT N pk τ h) (a0 : Nat) (ta0 : τ[a0]? = some 7) (a1 : Int32) (a2 : Int32) (a3 : Int32) : TMc l D yX7_queue cX7_queue 6 (some .int) 2 42 0 0 [.inr (some a0), .inl a1, .inl a2, .inl a3] h (fun rv h' => WT N pk τ h' ∧ Fr PMko τ h h' ∧ ∃ x : Int32, rv = some (.inl x) ∧ -2147483648 ≤ x.toInt ∧ x.toInt ≤ 2147483647) := by
  refine tmc_of false rfl (by decide) (Nat.le_of_ble_eq_true rfl) ?_
  suffices HQ : ∀ Q0, Q0 = tRt cX7_queue (some .int) (fun rv h' => WT N pk τ h' ∧ Fr PMko τ h h' ∧ ∃ x : Int32, rv = some (.inl x) ∧ -2147483648 ≤ x.toInt ∧ x.toInt ≤ 2147483647) → TT l D mX7_queue Q0 0 0 0 [(0, .inr (some a0)), (1, .inl a1), (2, .inl a2), (3, .inl a3)] [] h from HQ _ rfl
  intro Q0 hQ
  have hf : Fr PMko τ h h := Fr.rf
  have B22 : ∀ (hb : List tC) (hwb : WT N pk τ hb) (hfb : Fr PMko τ h hb), TT l D mX7_queue Q0 0 0 22 [] [] hb := by
    intro hb hwb hfb
    refine tw_iconst (pc := 22) dX7_queue_22 (by decide) (fun x68 ex68 => ?_)
    refine tt_stop ?_
    rw [hQ]
    exact Or.inr (Or.inl ⟨x68, dX7_queue_23, rfl, Or.inl rfl, hwb, hfb, x68, rfl, by omega, by omega⟩)
  have ba1 := i_ty a1
  have ba2 := i_ty a2
  have ba3 := i_ty a3
  refine tt_aload_n (pc := 0) dX7_queue_0 (.head _) ?_
  refine tw_iconst (pc := 1) dX7_queue_1 (by decide) (fun x69 ex69 => ?_)
  refine tw_put (P := PMko) (pc := 2) dX7_queue_2 flX7_96 hw ta0 (by decide) rfl ⟨by omega, by omega⟩ rfl (by decide) (by decide) (fun f70 h71 eh71 gh71 kh71 wh71 fh71 => ?_)
  have hfh71 := hf.tr fh71
  refine tt_iload_n (pc := 5) dX7_queue_5 (.tail _ (.head _)) ?_
  refine tt_iload_n (pc := 6) dX7_queue_6 (.tail _ (.tail _ (.head _))) ?_
  refine tt_callS (kc := 0) (ks := 0) (mc := 0) (ms := 0) (as := [.inl a1, .inl a2]) (st := []) (pc := 7) dX7_queue_7 lkX7_212 smX7_isEnd rfl (by decide) (by decide) (Nat.le_of_ble_eq_true rfl) (g_X7_isEnd hN2 hN8 hp0 hp64 wh71 a1 a2) (fun rv h72 qh72 => ?_)
  obtain ⟨rfl, x73, rfl, lx73, ux73, Gx73, Zx73⟩ := qh72
  show TT _ _ _ _ _ _ _ _ [.inl x73] _
  refine tw_if (tgt := 22) (pc := 10) dX7_queue_10 (by decide) (fun (c78 : x73.toInt = 0) => ?_) (fun (c78 : ¬ (x73.toInt = 0)) => ?_)
  · skip
    refine tt_loc [] (fun _ z => absurd z List.not_mem_nil) ?_
    exact B22 h71 wh71 hfh71
  · skip
    obtain ⟨b74, b75, b76, b77⟩ := Gx73 (by omega)
    refine tt_aload_n (pc := 13) dX7_queue_13 (.head _) ?_
    refine tw_getr (pc := 14) dX7_queue_14 flX7_7 wh71 ta0 (by decide) rfl (fun f79 q80 ef79 gf79 tq80 => ?_)
    refine tt_iload_n (pc := 17) dX7_queue_17 (.tail _ (.head _)) ?_
    refine tw_zld (pc := 18) dX7_queue_18 wh71 tq80 rfl (by omega) (by omega) (fun f82 x81 ef82 gf82 lx81 ux81 => ?_)
    refine tw_if (tgt := 24) (pc := 19) dX7_queue_19 (by decide) (fun (c83 : x81.toInt ≠ 0) => ?_) (fun (c83 : ¬ (x81.toInt ≠ 0)) => ?_)
    · skip
      refine tw_iconst (pc := 24) dX7_queue_24 (by decide) (fun x84 ex84 => ?_)
      refine tt_iload_n (pc := 25) dX7_queue_25 (.tail _ (.head _)) ?_
      refine tw_imul (c := 2) (pc := 26) dX7_queue_26 (by omega) (by omega) (fun x85 ex85 => ?_)
      refine tt_iload_n (pc := 27) dX7_queue_27 (.tail _ (.tail _ (.head _))) ?_
      refine tw_iadd (pc := 28) dX7_queue_28 (by omega) (fun x86 ex86 => ?_)
      refine tt_istore (pc := 29) dX7_queue_29 (by decide) ?_
      show TT _ _ _ _ _ _ _ [(4, .inl x86), (0, .inr (some a0)), (1, .inl a1), (2, .inl a2), (3, .inl a3)] _ _
      refine tw_bipush (pc := 31) dX7_queue_31 (by decide) (fun x87 ex87 => ?_)
      refine tt_iload (pc := 33) dX7_queue_33 (.head _) ?_
      refine tw_imul (c := 16) (pc := 35) dX7_queue_35 (by omega) (by omega) (fun x88 ex88 => ?_)
      refine tt_istore (pc := 36) dX7_queue_36 (by decide) ?_
      show TT _ _ _ _ _ _ _ [(5, .inl x88), (4, .inl x86), (0, .inr (some a0)), (1, .inl a1), (2, .inl a2), (3, .inl a3)] _ _
      refine tt_iload_n (pc := 38) dX7_queue_38 (.tail _ (.tail _ (.tail _ (.tail _ (.tail _ (.head _)))))) ?_
      refine tw_if (tgt := 50) (pc := 39) dX7_queue_39 (by decide) (fun (c89 : a3.toInt ≠ 0) => ?_) (fun (c89 : ¬ (a3.toInt ≠ 0)) => ?_)
      · skip
        refine tt_aload_n (pc := 50) dX7_queue_50 (.tail _ (.tail _ (.head _))) ?_
        refine tw_getr (pc := 51) dX7_queue_51 flX7_38 wh71 ta0 (by decide) rfl (fun f90 q91 ef90 gf90 tq91 => ?_)
        refine tt_iload (pc := 54) dX7_queue_54 (.tail _ (.head _)) ?_
        refine tw_ild (pc := 56) dX7_queue_56 wh71 tq91 rfl (by omega) (by omega) (fun f93 x92 ef93 gf93 lx92 ux92 => ?_)
        refine tw_if (tgt := 62) (pc := 57) dX7_queue_57 (by decide) (fun (c94 : x92.toInt ≠ 0) => ?_) (fun (c94 : ¬ (x92.toInt ≠ 0)) => ?_)
        · skip
          refine tt_iload_n (pc := 62) dX7_queue_62 (.tail _ (.tail _ (.tail _ (.tail _ (.tail _ (.head _)))))) ?_
          by_cases s95 : a3.toInt = 1
          · refine tw_tableK (c := 1) (off := 29) (tgt := 92) (pc := 63) dX7_queue_63 (by decide) s95 (by decide) (by decide) (by decide) (by decide) ?_
            refine tt_aload_n (pc := 92) dX7_queue_92 (.tail _ (.tail _ (.head _))) ?_
            refine tw_getr (pc := 93) dX7_queue_93 flX7_53 wh71 ta0 (by decide) rfl (fun f96 q97 ef96 gf96 tq97 => ?_)
            refine tt_iload (pc := 96) dX7_queue_96 (.head _) ?_
            refine tw_zld (pc := 98) dX7_queue_98 wh71 tq97 rfl (by omega) (by omega) (fun f99 x98 ef99 gf99 lx98 ux98 => ?_)
            refine tw_if (tgt := 115) (pc := 99) dX7_queue_99 (by decide) (fun (c100 : x98.toInt = 0) => ?_) (fun (c100 : ¬ (x98.toInt = 0)) => ?_)
            · skip
              refine tt_aload_n (pc := 115) dX7_queue_115 (.tail _ (.tail _ (.head _))) ?_
              refine tw_getr (pc := 116) dX7_queue_116 flX7_41 wh71 ta0 (by decide) rfl (fun f101 q102 ef101 gf101 tq102 => ?_)
              refine tt_iload (pc := 119) dX7_queue_119 (.head _) ?_
              refine tw_ild (pc := 121) dX7_queue_121 wh71 tq102 rfl (by omega) (by omega) (fun f104 x103 ef104 gf104 lx103 ux103 => ?_)
              refine tt_stop ?_
              rw [hQ]
              exact Or.inr (Or.inl ⟨x103, dX7_queue_122, rfl, Or.inl rfl, wh71, hfh71, x103, rfl, by omega, by omega⟩)
            · skip
              refine tt_aload_n (pc := 102) dX7_queue_102 (.tail _ (.tail _ (.head _))) ?_
              refine tw_getr (pc := 103) dX7_queue_103 flX7_41 wh71 ta0 (by decide) rfl (fun f105 q106 ef105 gf105 tq106 => ?_)
              refine tt_iload (pc := 106) dX7_queue_106 (.head _) ?_
              refine tw_ild (pc := 108) dX7_queue_108 wh71 tq106 rfl (by omega) (by omega) (fun f108 x107 ef108 gf108 lx107 ux107 => ?_)
              refine tw_bipush (pc := 109) dX7_queue_109 (by decide) (fun x109 ex109 => ?_)
              refine tw_iadd (pc := 111) dX7_queue_111 (by omega) (fun x110 ex110 => ?_)
              refine tt_goto (tgt := 122) (pc := 112) dX7_queue_112 (by decide) ?_
              refine tt_stop ?_
              rw [hQ]
              exact Or.inr (Or.inl ⟨x110, dX7_queue_122, rfl, Or.inl rfl, wh71, hfh71, x110, rfl, by omega, by omega⟩)
          by_cases s111 : a3.toInt = 2
          · refine tw_tableK (c := 2) (off := 60) (tgt := 123) (pc := 63) dX7_queue_63 (by decide) s111 (by decide) (by decide) (by decide) (by decide) ?_
            refine tt_aload_n (pc := 123) dX7_queue_123 (.tail _ (.tail _ (.head _))) ?_
            refine tw_getr (pc := 124) dX7_queue_124 flX7_44 wh71 ta0 (by decide) rfl (fun f112 q113 ef112 gf112 tq113 => ?_)
            refine tt_iload (pc := 127) dX7_queue_127 (.head _) ?_
            refine tw_ild (pc := 129) dX7_queue_129 wh71 tq113 rfl (by omega) (by omega) (fun f115 x114 ef115 gf115 lx114 ux114 => ?_)
            refine tt_stop ?_
            rw [hQ]
            exact Or.inr (Or.inl ⟨x114, dX7_queue_130, rfl, Or.inl rfl, wh71, hfh71, x114, rfl, by omega, by omega⟩)
          by_cases s116 : a3.toInt = 3
          · refine tw_tableK (c := 3) (off := 68) (tgt := 131) (pc := 63) dX7_queue_63 (by decide) s116 (by decide) (by decide) (by decide) (by decide) ?_
            refine tt_aload_n (pc := 131) dX7_queue_131 (.tail _ (.tail _ (.head _))) ?_
            refine tw_getr (pc := 132) dX7_queue_132 flX7_47 wh71 ta0 (by decide) rfl (fun f117 q118 ef117 gf117 tq118 => ?_)
            refine tt_iload (pc := 135) dX7_queue_135 (.head _) ?_
            refine tw_ild (pc := 137) dX7_queue_137 wh71 tq118 rfl (by omega) (by omega) (fun f120 x119 ef120 gf120 lx119 ux119 => ?_)
            refine tt_stop ?_
            rw [hQ]
            exact Or.inr (Or.inl ⟨x119, dX7_queue_138, rfl, Or.inl rfl, wh71, hfh71, x119, rfl, by omega, by omega⟩)
          by_cases s121 : a3.toInt = 4
          · refine tw_tableK (c := 4) (off := 76) (tgt := 139) (pc := 63) dX7_queue_63 (by decide) s121 (by decide) (by decide) (by decide) (by decide) ?_
            refine tt_aload_n (pc := 139) dX7_queue_139 (.tail _ (.tail _ (.head _))) ?_
            refine tw_getr (pc := 140) dX7_queue_140 flX7_41 wh71 ta0 (by decide) rfl (fun f122 q123 ef122 gf122 tq123 => ?_)
            refine tt_iload (pc := 143) dX7_queue_143 (.head _) ?_
            refine tw_ild (pc := 145) dX7_queue_145 wh71 tq123 rfl (by omega) (by omega) (fun f125 x124 ef125 gf125 lx124 ux124 => ?_)
            refine tw_iconst (pc := 146) dX7_queue_146 (by decide) (fun x126 ex126 => ?_)
            refine tw_icmp (tgt := 160) (pc := 147) dX7_queue_147 (by decide) (fun (c127 : x124.toInt ≠ x126.toInt) => ?_) (fun (c127 : ¬ (x124.toInt ≠ x126.toInt)) => ?_)
            · skip
              refine tw_iconst (pc := 160) dX7_queue_160 (by decide) (fun x128 ex128 => ?_)
              refine tt_stop ?_
              rw [hQ]
              exact Or.inr (Or.inl ⟨x128, dX7_queue_161, rfl, Or.inl rfl, wh71, hfh71, x128, rfl, by omega, by omega⟩)
            · skip
              refine tt_aload_n (pc := 150) dX7_queue_150 (.tail _ (.tail _ (.head _))) ?_
              refine tw_getr (pc := 151) dX7_queue_151 flX7_50 wh71 ta0 (by decide) rfl (fun f129 q130 ef129 gf129 tq130 => ?_)
              refine tt_iload (pc := 154) dX7_queue_154 (.head _) ?_
              refine tw_ild (pc := 156) dX7_queue_156 wh71 tq130 rfl (by omega) (by omega) (fun f132 x131 ef132 gf132 lx131 ux131 => ?_)
              refine tt_goto (tgt := 161) (pc := 157) dX7_queue_157 (by decide) ?_
              refine tt_stop ?_
              rw [hQ]
              exact Or.inr (Or.inl ⟨x131, dX7_queue_161, rfl, Or.inl rfl, wh71, hfh71, x131, rfl, by omega, by omega⟩)
          refine tw_tableD (tgt := 162) (pc := 63) dX7_queue_63 (by decide) (by omega) (by decide) ?_
          refine tw_iconst (pc := 162) dX7_queue_162 (by decide) (fun x133 ex133 => ?_)
          refine tt_stop ?_
          rw [hQ]
          exact Or.inr (Or.inl ⟨x133, dX7_queue_163, rfl, Or.inl rfl, wh71, hfh71, x133, rfl, by omega, by omega⟩)
        · skip
          refine tw_iconst (pc := 60) dX7_queue_60 (by decide) (fun x134 ex134 => ?_)
          refine tt_stop ?_
          rw [hQ]
          exact Or.inr (Or.inl ⟨x134, dX7_queue_61, rfl, Or.inl rfl, wh71, hfh71, x134, rfl, by omega, by omega⟩)
      · skip
        refine tt_aload_n (pc := 42) dX7_queue_42 (.tail _ (.tail _ (.head _))) ?_
        refine tw_getr (pc := 43) dX7_queue_43 flX7_38 wh71 ta0 (by decide) rfl (fun f135 q136 ef135 gf135 tq136 => ?_)
        refine tt_iload (pc := 46) dX7_queue_46 (.tail _ (.head _)) ?_
        refine tw_ild (pc := 48) dX7_queue_48 wh71 tq136 rfl (by omega) (by omega) (fun f138 x137 ef138 gf138 lx137 ux137 => ?_)
        refine tt_stop ?_
        rw [hQ]
        exact Or.inr (Or.inl ⟨x137, dX7_queue_49, rfl, Or.inl rfl, wh71, hfh71, x137, rfl, by omega, by omega⟩)
    · skip
      refine tt_loc [] (fun _ z => absurd z List.not_mem_nil) ?_
      exact B22 h71 wh71 hfh71
abbrev mX7_knows : tM := (RX7, cX7_knows, 3, 2, 42, false)
set_option maxHeartbeats 4000000 in
theorem g_X7_knows {l : Launch} {D : va_G} {N : Nat} {pk : Int} {τ : List Nat} (hN2 : 2 ≤ N) (hN8 : N ≤ 8) (hp0 : 0 ≤ pk) (hp64 : pk ≤ 64) {h : List tC} (hw : WT N pk τ h) (a0 : Nat) (ta0 : τ[a0]? = some 7) (a1 : Int32) (a2 : Int32) : TMc l D yX7_knows cX7_knows 3 (some .int) 2 42 0 0 [.inr (some a0), .inl a1, .inl a2] h (fun rv h' => WT N pk τ h' ∧ Fr PMko τ h h' ∧ ∃ x : Int32, rv = some (.inl x) ∧ -2147483648 ≤ x.toInt ∧ x.toInt ≤ 2147483647) := by
  refine tmc_of false rfl (by decide) (Nat.le_of_ble_eq_true rfl) ?_
  suffices HQ : ∀ Q0, Q0 = tRt cX7_knows (some .int) (fun rv h' => WT N pk τ h' ∧ Fr PMko τ h h' ∧ ∃ x : Int32, rv = some (.inl x) ∧ -2147483648 ≤ x.toInt ∧ x.toInt ≤ 2147483647) → TT l D mX7_knows Q0 0 0 0 [(0, .inr (some a0)), (1, .inl a1), (2, .inl a2)] [] h from HQ _ rfl
  intro Q0 hQ
  have hf : Fr PMko τ h h := Fr.rf
  have B35 : ∀ (hb : List tC) (hwb : WT N pk τ hb) (hfb : Fr PMko τ h hb), TT l D mX7_knows Q0 0 0 35 [] [] hb := by
    intro hb hwb hfb
    refine tw_iconst (pc := 35) dX7_knows_35 (by decide) (fun x22 ex22 => ?_)
    refine tt_stop ?_
    rw [hQ]
    exact Or.inr (Or.inl ⟨x22, dX7_knows_36, rfl, Or.inl rfl, hwb, hfb, x22, rfl, by omega, by omega⟩)
  have ba1 := i_ty a1
  have ba2 := i_ty a2
  refine tt_aload_n (pc := 0) dX7_knows_0 (.head _) ?_
  refine tw_iconst (pc := 1) dX7_knows_1 (by decide) (fun x23 ex23 => ?_)
  refine tw_put (P := PMko) (pc := 2) dX7_knows_2 flX7_96 hw ta0 (by decide) rfl ⟨by omega, by omega⟩ rfl (by decide) (by decide) (fun f24 h25 eh25 gh25 kh25 wh25 fh25 => ?_)
  have hfh25 := hf.tr fh25
  refine tt_aload_n (pc := 5) dX7_knows_5 (.head _) ?_
  refine tt_iload_n (pc := 6) dX7_knows_6 (.tail _ (.head _)) ?_
  refine tw_callV (kc := 0) (ks := 0) (mc := 0) (ms := 0) (as := [.inl a1]) (st := []) (pc := 7) wh25 ta0 (by decide) dX7_knows_7 lkX7_189 imX7_isRouter seX7_isRouter rfl rfl (by decide) (by decide) (Nat.le_of_ble_eq_true rfl) (g_X7_isRouter hN2 hN8 hp0 hp64 wh25 a0 ta0 a1) (fun rv h26 qh26 => ?_)
  obtain ⟨rfl, x27, rfl, lx27, ux27, Gx27, Zx27⟩ := qh26
  show TT _ _ _ _ _ _ _ _ [.inl x27] _
  refine tw_if (tgt := 35) (pc := 10) dX7_knows_10 (by decide) (fun (c30 : x27.toInt = 0) => ?_) (fun (c30 : ¬ (x27.toInt = 0)) => ?_)
  · skip
    refine tt_loc [] (fun _ z => absurd z List.not_mem_nil) ?_
    exact B35 h25 wh25 hfh25
  · skip
    obtain ⟨b28, b29⟩ := Gx27 (by omega)
    refine tt_aload_n (pc := 13) dX7_knows_13 (.head _) ?_
    refine tt_iload_n (pc := 14) dX7_knows_14 (.tail _ (.tail _ (.head _))) ?_
    refine tw_callV (kc := 0) (ks := 0) (mc := 0) (ms := 0) (as := [.inl a2]) (st := []) (pc := 15) wh25 ta0 (by decide) dX7_knows_15 lkX7_189 imX7_isRouter seX7_isRouter rfl rfl (by decide) (by decide) (Nat.le_of_ble_eq_true rfl) (g_X7_isRouter hN2 hN8 hp0 hp64 wh25 a0 ta0 a2) (fun rv h31 qh31 => ?_)
    obtain ⟨rfl, x32, rfl, lx32, ux32, Gx32, Zx32⟩ := qh31
    show TT _ _ _ _ _ _ _ _ [.inl x32] _
    refine tw_if (tgt := 35) (pc := 18) dX7_knows_18 (by decide) (fun (c35 : x32.toInt = 0) => ?_) (fun (c35 : ¬ (x32.toInt = 0)) => ?_)
    · skip
      refine tt_loc [] (fun _ z => absurd z List.not_mem_nil) ?_
      exact B35 h25 wh25 hfh25
    · skip
      obtain ⟨b33, b34⟩ := Gx32 (by omega)
      refine tt_aload_n (pc := 21) dX7_knows_21 (.head _) ?_
      refine tw_getr (pc := 22) dX7_knows_22 flX7_29 wh25 ta0 (by decide) rfl (fun f36 q37 ef36 gf36 tq37 => ?_)
      refine tw_bipush (pc := 25) dX7_knows_25 (by decide) (fun x38 ex38 => ?_)
      refine tt_iload_n (pc := 27) dX7_knows_27 (.tail _ (.head _)) ?_
      refine tw_imul (c := 8) (pc := 28) dX7_knows_28 (by omega) (by omega) (fun x39 ex39 => ?_)
      refine tt_iload_n (pc := 29) dX7_knows_29 (.tail _ (.tail _ (.head _))) ?_
      refine tw_iadd (pc := 30) dX7_knows_30 (by omega) (fun x40 ex40 => ?_)
      refine tw_ild (pc := 31) dX7_knows_31 wh25 tq37 rfl (by omega) (by omega) (fun f42 x41 ef42 gf42 lx41 ux41 => ?_)
      refine tt_goto (tgt := 36) (pc := 32) dX7_knows_32 (by decide) ?_
      refine tt_stop ?_
      rw [hQ]
      exact Or.inr (Or.inl ⟨x41, dX7_knows_36, rfl, Or.inl rfl, wh25, hfh25, x41, rfl, by omega, by omega⟩)
abbrev mX7_way : tM := (RX7, cX7_way, 4, 2, 47, false)
set_option maxHeartbeats 4000000 in
theorem g_X7_way {l : Launch} {D : va_G} {N : Nat} {pk : Int} {τ : List Nat} (hN2 : 2 ≤ N) (hN8 : N ≤ 8) (hp0 : 0 ≤ pk) (hp64 : pk ≤ 64) {h : List tC} (hw : WT N pk τ h) (a0 : Nat) (ta0 : τ[a0]? = some 7) (a1 : Int32) (a2 : Int32) (a3 : Int32) : TMc l D yX7_way cX7_way 4 (some .int) 2 47 0 0 [.inr (some a0), .inl a1, .inl a2, .inl a3] h (fun rv h' => WT N pk τ h' ∧ Fr PMko τ h h' ∧ ∃ x : Int32, rv = some (.inl x) ∧ -2147483648 ≤ x.toInt ∧ x.toInt ≤ 2147483647) := by
  refine tmc_of false rfl (by decide) (Nat.le_of_ble_eq_true rfl) ?_
  suffices HQ : ∀ Q0, Q0 = tRt cX7_way (some .int) (fun rv h' => WT N pk τ h' ∧ Fr PMko τ h h' ∧ ∃ x : Int32, rv = some (.inl x) ∧ -2147483648 ≤ x.toInt ∧ x.toInt ≤ 2147483647) → TT l D mX7_way Q0 0 0 0 [(0, .inr (some a0)), (1, .inl a1), (2, .inl a2), (3, .inl a3)] [] h from HQ _ rfl
  intro Q0 hQ
  have hf : Fr PMko τ h h := Fr.rf
  have B21 : ∀ (hb : List tC) (hwb : WT N pk τ hb) (hfb : Fr PMko τ h hb), TT l D mX7_way Q0 0 0 21 [] [] hb := by
    intro hb hwb hfb
    refine tw_iconst (pc := 21) dX7_way_21 (by decide) (fun x37 ex37 => ?_)
    refine tt_stop ?_
    rw [hQ]
    exact Or.inr (Or.inl ⟨x37, dX7_way_22, rfl, Or.inl rfl, hwb, hfb, x37, rfl, by omega, by omega⟩)
  have ba1 := i_ty a1
  have ba2 := i_ty a2
  have ba3 := i_ty a3
  refine tt_aload_n (pc := 0) dX7_way_0 (.head _) ?_
  refine tw_iconst (pc := 1) dX7_way_1 (by decide) (fun x38 ex38 => ?_)
  refine tw_put (P := PMko) (pc := 2) dX7_way_2 flX7_96 hw ta0 (by decide) rfl ⟨by omega, by omega⟩ rfl (by decide) (by decide) (fun f39 h40 eh40 gh40 kh40 wh40 fh40 => ?_)
  have hfh40 := hf.tr fh40
  refine tt_aload_n (pc := 5) dX7_way_5 (.head _) ?_
  refine tt_iload_n (pc := 6) dX7_way_6 (.tail _ (.head _)) ?_
  refine tw_callV (kc := 0) (ks := 0) (mc := 0) (ms := 0) (as := [.inl a1]) (st := []) (pc := 7) wh40 ta0 (by decide) dX7_way_7 lkX7_189 imX7_isRouter seX7_isRouter rfl rfl (by decide) (by decide) (Nat.le_of_ble_eq_true rfl) (g_X7_isRouter hN2 hN8 hp0 hp64 wh40 a0 ta0 a1) (fun rv h41 qh41 => ?_)
  obtain ⟨rfl, x42, rfl, lx42, ux42, Gx42, Zx42⟩ := qh41
  show TT _ _ _ _ _ _ _ _ [.inl x42] _
  refine tw_if (tgt := 21) (pc := 10) dX7_way_10 (by decide) (fun (c45 : x42.toInt = 0) => ?_) (fun (c45 : ¬ (x42.toInt = 0)) => ?_)
  · skip
    refine tt_loc [] (fun _ z => absurd z List.not_mem_nil) ?_
    exact B21 h40 wh40 hfh40
  · skip
    obtain ⟨b43, b44⟩ := Gx42 (by omega)
    refine tt_aload_n (pc := 13) dX7_way_13 (.head _) ?_
    refine tt_iload_n (pc := 14) dX7_way_14 (.tail _ (.tail _ (.head _))) ?_
    refine tw_callV (kc := 0) (ks := 0) (mc := 0) (ms := 0) (as := [.inl a2]) (st := []) (pc := 15) wh40 ta0 (by decide) dX7_way_15 lkX7_189 imX7_isRouter seX7_isRouter rfl rfl (by decide) (by decide) (Nat.le_of_ble_eq_true rfl) (g_X7_isRouter hN2 hN8 hp0 hp64 wh40 a0 ta0 a2) (fun rv h46 qh46 => ?_)
    obtain ⟨rfl, x47, rfl, lx47, ux47, Gx47, Zx47⟩ := qh46
    show TT _ _ _ _ _ _ _ _ [.inl x47] _
    refine tw_if (tgt := 23) (pc := 18) dX7_way_18 (by decide) (fun (c50 : x47.toInt ≠ 0) => ?_) (fun (c50 : ¬ (x47.toInt ≠ 0)) => ?_)
    · skip
      obtain ⟨b48, b49⟩ := Gx47 (by omega)
      refine tt_aload_n (pc := 23) dX7_way_23 (.head _) ?_
      refine tt_iload_n (pc := 24) dX7_way_24 (.tail _ (.head _)) ?_
      refine tw_callV (kc := 0) (ks := 0) (mc := 0) (ms := 0) (as := [.inl a1]) (st := []) (pc := 25) wh40 ta0 (by decide) dX7_way_25 lkX7_163 imX7_measure seX7_measure rfl rfl (by decide) (by decide) (Nat.le_of_ble_eq_true rfl) (g_X7_measure hN2 hN8 hp0 hp64 wh40 a0 ta0 a1 (by omega) (by omega)) (fun rv h51 qh51 => ?_)
      obtain ⟨wh51, fh51, rfl⟩ := qh51
      have hfh51 := hfh40.tr (fh51.weak weak_PMk_PMko)
      show TT _ _ _ _ _ _ _ _ [] _
      refine tt_iload_n (pc := 28) dX7_way_28 (.tail _ (.tail _ (.tail _ (.head _)))) ?_
      refine tw_if (tgt := 64) (pc := 29) dX7_way_29 (by decide) (fun (c52 : a3.toInt ≠ 0) => ?_) (fun (c52 : ¬ (a3.toInt ≠ 0)) => ?_)
      · skip
        refine tt_iload_n (pc := 64) dX7_way_64 (.tail _ (.tail _ (.tail _ (.head _)))) ?_
        refine tw_iconst (pc := 65) dX7_way_65 (by decide) (fun x53 ex53 => ?_)
        refine tw_icmp (tgt := 78) (pc := 66) dX7_way_66 (by decide) (fun (c54 : a3.toInt ≠ x53.toInt) => ?_) (fun (c54 : ¬ (a3.toInt ≠ x53.toInt)) => ?_)
        · skip
          refine tw_iconst (pc := 78) dX7_way_78 (by decide) (fun x55 ex55 => ?_)
          refine tt_stop ?_
          rw [hQ]
          exact Or.inr (Or.inl ⟨x55, dX7_way_79, rfl, Or.inl rfl, wh51, hfh51, x55, rfl, by omega, by omega⟩)
        · skip
          refine tt_aload_n (pc := 69) dX7_way_69 (.head _) ?_
          refine tt_iload_n (pc := 70) dX7_way_70 (.tail _ (.head _)) ?_
          refine tt_iload_n (pc := 71) dX7_way_71 (.tail _ (.tail _ (.head _))) ?_
          refine tw_callV (kc := 0) (ks := 0) (mc := 0) (ms := 0) (as := [.inl a1, .inl a2]) (st := []) (pc := 72) wh51 ta0 (by decide) dX7_way_72 lkX7_142 imX7_hop seX7_hop rfl rfl (by decide) (by decide) (Nat.le_of_ble_eq_true rfl) (g_X7_hop hN2 hN8 hp0 hp64 wh51 a0 ta0 a1 (by omega) (by omega) a2 (by omega) (by omega)) (fun rv h56 qh56 => ?_)
          obtain ⟨rfl, x57, rfl, lx57, ux57⟩ := qh56
          show TT _ _ _ _ _ _ _ _ [.inl x57] _
          refine tt_goto (tgt := 79) (pc := 75) dX7_way_75 (by decide) ?_
          refine tt_stop ?_
          rw [hQ]
          exact Or.inr (Or.inl ⟨x57, dX7_way_79, rfl, Or.inl rfl, wh51, hfh51, x57, rfl, by omega, by omega⟩)
      · skip
        refine tt_aload_n (pc := 32) dX7_way_32 (.head _) ?_
        refine tw_getr (pc := 33) dX7_way_33 flX7_89 wh51 ta0 (by decide) rfl (fun f58 q59 ef58 gf58 tq59 => ?_)
        refine tw_bipush (pc := 36) dX7_way_36 (by decide) (fun x60 ex60 => ?_)
        refine tt_iload_n (pc := 38) dX7_way_38 (.tail _ (.head _)) ?_
        refine tw_imul (c := 8) (pc := 39) dX7_way_39 (by omega) (by omega) (fun x61 ex61 => ?_)
        refine tt_iload_n (pc := 40) dX7_way_40 (.tail _ (.tail _ (.head _))) ?_
        refine tw_iadd (pc := 41) dX7_way_41 (by omega) (fun x62 ex62 => ?_)
        refine tw_ild (pc := 42) dX7_way_42 wh51 tq59 rfl (by omega) (by omega) (fun f64 x63 ef64 gf64 lx63 ux63 => ?_)
        refine tw_ldc (n := 1000000) (pc := 43) dX7_way_43 rfl kcX7_124 (by decide) (fun x65 ex65 => ?_)
        refine tw_icmp (tgt := 62) (pc := 45) dX7_way_45 (by decide) (fun (c66 : x65.toInt ≤ x63.toInt) => ?_) (fun (c66 : ¬ (x65.toInt ≤ x63.toInt)) => ?_)
        · skip
          refine tw_iconst (pc := 62) dX7_way_62 (by decide) (fun x67 ex67 => ?_)
          refine tt_stop ?_
          rw [hQ]
          exact Or.inr (Or.inl ⟨x67, dX7_way_63, rfl, Or.inl rfl, wh51, hfh51, x67, rfl, by omega, by omega⟩)
        · skip
          refine tt_aload_n (pc := 48) dX7_way_48 (.head _) ?_
          refine tt_get (pc := 49) dX7_way_49 flX7_89 ef58 gf58 ?_
          refine tw_bipush (pc := 52) dX7_way_52 (by decide) (fun x68 ex68 => ?_)
          refine tt_iload_n (pc := 54) dX7_way_54 (.tail _ (.head _)) ?_
          refine tw_imul (c := 8) (pc := 55) dX7_way_55 (by omega) (by omega) (fun x69 ex69 => ?_)
          refine tt_iload_n (pc := 56) dX7_way_56 (.tail _ (.tail _ (.head _))) ?_
          refine tw_iadd (pc := 57) dX7_way_57 (by omega) (fun x70 ex70 => ?_)
          refine tw_ild (pc := 58) dX7_way_58 wh51 tq59 rfl (by omega) (by omega) (fun f72 x71 ef72 gf72 lx71 ux71 => ?_)
          refine tt_goto (tgt := 63) (pc := 59) dX7_way_59 (by decide) ?_
          refine tt_stop ?_
          rw [hQ]
          exact Or.inr (Or.inl ⟨x71, dX7_way_63, rfl, Or.inl rfl, wh51, hfh51, x71, rfl, by omega, by omega⟩)
    · skip
      refine tt_loc [] (fun _ z => absurd z List.not_mem_nil) ?_
      exact B21 h40 wh40 hfh40
abbrev mX7_asked : tM := (RX7, cX7_asked, 4, 3, 69, false)
set_option maxHeartbeats 4000000 in
theorem g_X7_asked {l : Launch} {D : va_G} {N : Nat} {pk : Int} {τ : List Nat} (hN2 : 2 ≤ N) (hN8 : N ≤ 8) (hp0 : 0 ≤ pk) (hp64 : pk ≤ 64) {h : List tC} (hw : WT N pk τ h) (a0 : Nat) (ta0 : τ[a0]? = some 7) (a1 : Int32) (la1 : 0 ≤ a1.toInt) (ua1 : a1.toInt ≤ 7) (a2 : Int32) (la2 : 0 ≤ a2.toInt) (ua2 : a2.toInt ≤ 7) (a3 : Int32) : TMc l D yX7_asked cX7_asked 4 (some .int) 3 69 0 0 [.inr (some a0), .inl a1, .inl a2, .inl a3] h (fun rv h' => h = h' ∧ ∃ x : Int32, rv = some (.inl x) ∧ -1 ≤ x.toInt ∧ x.toInt ≤ 767) := by
  refine tmc_of false rfl (by decide) (Nat.le_of_ble_eq_true rfl) ?_
  suffices HQ : ∀ Q0, Q0 = tRt cX7_asked (some .int) (fun rv h' => h = h' ∧ ∃ x : Int32, rv = some (.inl x) ∧ -1 ≤ x.toInt ∧ x.toInt ≤ 767) → TT l D mX7_asked Q0 0 0 0 [(0, .inr (some a0)), (1, .inl a1), (2, .inl a2), (3, .inl a3)] [] h from HQ _ rfl
  intro Q0 hQ
  have B47 : TT l D mX7_asked Q0 0 0 47 [] [] h := by
    refine tw_iconst (pc := 47) dX7_asked_47 (by decide) (fun x22 ex22 => ?_)
    refine tt_stop ?_
    rw [hQ]
    exact Or.inr (Or.inl ⟨x22, dX7_asked_48, rfl, Or.inl rfl, rfl, x22, rfl, by omega, by omega⟩)
  have ba3 := i_ty a3
  refine tt_iload_n (pc := 0) dX7_asked_0 (.tail _ (.tail _ (.tail _ (.head _)))) ?_
  refine tw_iconst (pc := 1) dX7_asked_1 (by decide) (fun x23 ex23 => ?_)
  refine tw_icmp (tgt := 12) (pc := 2) dX7_asked_2 (by decide) (fun (c24 : a3.toInt ≠ x23.toInt) => ?_) (fun (c24 : ¬ (a3.toInt ≠ x23.toInt)) => ?_)
  · skip
    refine tt_iload_n (pc := 12) dX7_asked_12 (.tail _ (.tail _ (.tail _ (.head _)))) ?_
    refine tw_bipush (pc := 13) dX7_asked_13 (by decide) (fun x25 ex25 => ?_)
    refine tt_callS (kc := 0) (ks := 0) (mc := 0) (ms := 0) (as := [.inl a3, .inl x25]) (st := []) (pc := 15) dX7_asked_15 lkX7_99 smX7_in rfl (by decide) (by decide) (Nat.le_of_ble_eq_true rfl) (g_X7_in hN2 hN8 hp0 hp64 hw a3 x25) (fun rv h26 qh26 => ?_)
    obtain ⟨rfl, x27, rfl, lx27, ux27, Gx27, Zx27⟩ := qh26
    show TT _ _ _ _ _ _ _ _ [.inl x27] _
    refine tw_if (tgt := 47) (pc := 18) dX7_asked_18 (by decide) (fun (c30 : x27.toInt = 0) => ?_) (fun (c30 : ¬ (x27.toInt = 0)) => ?_)
    · skip
      refine tt_loc [] (fun _ z => absurd z List.not_mem_nil) ?_
      exact B47 
    · skip
      obtain ⟨b28, b29⟩ := Gx27 (by omega)
      refine tt_aload_n (pc := 21) dX7_asked_21 (.head _) ?_
      refine tw_getr (pc := 22) dX7_asked_22 flX7_56 hw ta0 (by decide) rfl (fun f31 q32 ef31 gf31 tq32 => ?_)
      refine tt_aload_n (pc := 25) dX7_asked_25 (.head _) ?_
      refine tt_iload_n (pc := 26) dX7_asked_26 (.tail _ (.head _)) ?_
      refine tt_iload_n (pc := 27) dX7_asked_27 (.tail _ (.tail _ (.head _))) ?_
      refine tt_iload_n (pc := 28) dX7_asked_28 (.tail _ (.tail _ (.tail _ (.head _)))) ?_
      refine tw_callV (kc := 0) (ks := 0) (mc := 0) (ms := 0) (as := [.inl a1, .inl a2, .inl a3]) (st := [.inr (some q32)]) (pc := 29) hw ta0 (by decide) dX7_asked_29 lkX7_145 imX7_slot seX7_slot rfl rfl (by decide) (by decide) (Nat.le_of_ble_eq_true rfl) (g_X7_slot hN2 hN8 hp0 hp64 hw a0 ta0 a1 (by omega) (by omega) a2 (by omega) (by omega) a3 (by omega) (by omega)) (fun rv h33 qh33 => ?_)
      obtain ⟨rfl, x34, rfl, lx34, ux34⟩ := qh33
      show TT _ _ _ _ _ _ _ _ [.inl x34, .inr (some q32)] _
      refine tw_ild (pc := 32) dX7_asked_32 hw tq32 rfl (by omega) (by omega) (fun f36 x35 ef36 gf36 lx35 ux35 => ?_)
      refine tw_iconst (pc := 33) dX7_asked_33 (by decide) (fun x37 ex37 => ?_)
      refine tw_icmp (tgt := 47) (pc := 34) dX7_asked_34 (by decide) (fun (c38 : x35.toInt = x37.toInt) => ?_) (fun (c38 : ¬ (x35.toInt = x37.toInt)) => ?_)
      · skip
        refine tt_loc [] (fun _ z => absurd z List.not_mem_nil) ?_
        exact B47 
      · skip
        refine tt_aload_n (pc := 37) dX7_asked_37 (.head _) ?_
        refine tt_iload_n (pc := 38) dX7_asked_38 (.tail _ (.head _)) ?_
        refine tt_iload_n (pc := 39) dX7_asked_39 (.tail _ (.tail _ (.head _))) ?_
        refine tt_iload_n (pc := 40) dX7_asked_40 (.tail _ (.tail _ (.tail _ (.head _)))) ?_
        refine tw_callV (kc := 0) (ks := 0) (mc := 0) (ms := 0) (as := [.inl a1, .inl a2, .inl a3]) (st := []) (pc := 41) hw ta0 (by decide) dX7_asked_41 lkX7_145 imX7_slot seX7_slot rfl rfl (by decide) (by decide) (Nat.le_of_ble_eq_true rfl) (g_X7_slot hN2 hN8 hp0 hp64 hw a0 ta0 a1 (by omega) (by omega) a2 (by omega) (by omega) a3 (by omega) (by omega)) (fun rv h39 qh39 => ?_)
        obtain ⟨rfl, x40, rfl, lx40, ux40⟩ := qh39
        show TT _ _ _ _ _ _ _ _ [.inl x40] _
        refine tt_goto (tgt := 48) (pc := 44) dX7_asked_44 (by decide) ?_
        refine tt_stop ?_
        rw [hQ]
        exact Or.inr (Or.inl ⟨x40, dX7_asked_48, rfl, Or.inl rfl, rfl, x40, rfl, by omega, by omega⟩)
  · skip
    refine tt_aload_n (pc := 5) dX7_asked_5 (.head _) ?_
    refine tt_iload_n (pc := 6) dX7_asked_6 (.tail _ (.head _)) ?_
    refine tt_iload_n (pc := 7) dX7_asked_7 (.tail _ (.tail _ (.head _))) ?_
    refine tw_callV (kc := 0) (ks := 0) (mc := 0) (ms := 0) (as := [.inl a1, .inl a2]) (st := []) (pc := 8) hw ta0 (by decide) dX7_asked_8 lkX7_149 imX7_byHop seX7_byHop rfl rfl (by decide) (by decide) (Nat.le_of_ble_eq_true rfl) (g_X7_byHop hN2 hN8 hp0 hp64 hw a0 ta0 a1 (by omega) (by omega) a2 (by omega) (by omega)) (fun rv h41 qh41 => ?_)
    obtain ⟨rfl, x42, rfl, lx42, ux42⟩ := qh41
    show TT _ _ _ _ _ _ _ _ [.inl x42] _
    refine tt_stop ?_
    rw [hQ]
    exact Or.inr (Or.inl ⟨x42, dX7_asked_11, rfl, Or.inl rfl, rfl, x42, rfl, by omega, by omega⟩)
abbrev mX7_label : tM := (RX7, cX7_label, 6, 4, 92, false)
set_option maxHeartbeats 4000000 in
theorem g_X7_label {l : Launch} {D : va_G} {N : Nat} {pk : Int} {τ : List Nat} (hN2 : 2 ≤ N) (hN8 : N ≤ 8) (hp0 : 0 ≤ pk) (hp64 : pk ≤ 64) {h : List tC} (hw : WT N pk τ h) (a0 : Nat) (ta0 : τ[a0]? = some 7) (a1 : Int32) (a2 : Int32) (a3 : Int32) (a4 : Int32) : TMc l D yX7_label cX7_label 6 (some .int) 4 92 0 0 [.inr (some a0), .inl a1, .inl a2, .inl a3, .inl a4] h (fun rv h' => WT N pk τ h' ∧ Fr PMko τ h h' ∧ ∃ x : Int32, rv = some (.inl x) ∧ -2147483648 ≤ x.toInt ∧ x.toInt ≤ 2147483647) := by
  refine tmc_of false rfl (by decide) (Nat.le_of_ble_eq_true rfl) ?_
  suffices HQ : ∀ Q0, Q0 = tRt cX7_label (some .int) (fun rv h' => WT N pk τ h' ∧ Fr PMko τ h h' ∧ ∃ x : Int32, rv = some (.inl x) ∧ -2147483648 ≤ x.toInt ∧ x.toInt ≤ 2147483647) → TT l D mX7_label Q0 0 0 0 [(0, .inr (some a0)), (1, .inl a1), (2, .inl a2), (3, .inl a3), (4, .inl a4)] [] h from HQ _ rfl
  intro Q0 hQ
  have hf : Fr PMko τ h h := Fr.rf
  have B22 : ∀ (hb : List tC) (hwb : WT N pk τ hb) (hfb : Fr PMko τ h hb), TT l D mX7_label Q0 0 0 22 [] [] hb := by
    intro hb hwb hfb
    refine tw_iconst (pc := 22) dX7_label_22 (by decide) (fun x60 ex60 => ?_)
    refine tt_stop ?_
    rw [hQ]
    exact Or.inr (Or.inl ⟨x60, dX7_label_23, rfl, Or.inl rfl, hwb, hfb, x60, rfl, by omega, by omega⟩)
  have ba1 := i_ty a1
  have ba2 := i_ty a2
  have ba3 := i_ty a3
  have ba4 := i_ty a4
  refine tt_aload_n (pc := 0) dX7_label_0 (.head _) ?_
  refine tw_iconst (pc := 1) dX7_label_1 (by decide) (fun x61 ex61 => ?_)
  refine tw_put (P := PMko) (pc := 2) dX7_label_2 flX7_96 hw ta0 (by decide) rfl ⟨by omega, by omega⟩ rfl (by decide) (by decide) (fun f62 h63 eh63 gh63 kh63 wh63 fh63 => ?_)
  have hfh63 := hf.tr fh63
  refine tt_aload_n (pc := 5) dX7_label_5 (.head _) ?_
  refine tt_iload_n (pc := 6) dX7_label_6 (.tail _ (.head _)) ?_
  refine tw_callV (kc := 0) (ks := 0) (mc := 0) (ms := 0) (as := [.inl a1]) (st := []) (pc := 7) wh63 ta0 (by decide) dX7_label_7 lkX7_189 imX7_isRouter seX7_isRouter rfl rfl (by decide) (by decide) (Nat.le_of_ble_eq_true rfl) (g_X7_isRouter hN2 hN8 hp0 hp64 wh63 a0 ta0 a1) (fun rv h64 qh64 => ?_)
  obtain ⟨rfl, x65, rfl, lx65, ux65, Gx65, Zx65⟩ := qh64
  show TT _ _ _ _ _ _ _ _ [.inl x65] _
  refine tw_if (tgt := 22) (pc := 10) dX7_label_10 (by decide) (fun (c68 : x65.toInt = 0) => ?_) (fun (c68 : ¬ (x65.toInt = 0)) => ?_)
  · skip
    refine tt_loc [] (fun _ z => absurd z List.not_mem_nil) ?_
    exact B22 h63 wh63 hfh63
  · skip
    obtain ⟨b66, b67⟩ := Gx65 (by omega)
    refine tt_iload_n (pc := 13) dX7_label_13 (.tail _ (.tail _ (.head _))) ?_
    refine tw_bipush (pc := 14) dX7_label_14 (by decide) (fun x69 ex69 => ?_)
    refine tt_callS (kc := 0) (ks := 0) (mc := 0) (ms := 0) (as := [.inl a2, .inl x69]) (st := []) (pc := 16) dX7_label_16 lkX7_99 smX7_in rfl (by decide) (by decide) (Nat.le_of_ble_eq_true rfl) (g_X7_in hN2 hN8 hp0 hp64 wh63 a2 x69) (fun rv h70 qh70 => ?_)
    obtain ⟨rfl, x71, rfl, lx71, ux71, Gx71, Zx71⟩ := qh70
    show TT _ _ _ _ _ _ _ _ [.inl x71] _
    refine tw_if (tgt := 24) (pc := 19) dX7_label_19 (by decide) (fun (c74 : x71.toInt ≠ 0) => ?_) (fun (c74 : ¬ (x71.toInt ≠ 0)) => ?_)
    · skip
      obtain ⟨b72, b73⟩ := Gx71 (by omega)
      refine tt_aload_n (pc := 24) dX7_label_24 (.head _) ?_
      refine tt_iload_n (pc := 25) dX7_label_25 (.tail _ (.head _)) ?_
      refine tw_callV (kc := 0) (ks := 0) (mc := 0) (ms := 0) (as := [.inl a1]) (st := []) (pc := 26) wh63 ta0 (by decide) dX7_label_26 lkX7_163 imX7_measure seX7_measure rfl rfl (by decide) (by decide) (Nat.le_of_ble_eq_true rfl) (g_X7_measure hN2 hN8 hp0 hp64 wh63 a0 ta0 a1 (by omega) (by omega)) (fun rv h75 qh75 => ?_)
      obtain ⟨wh75, fh75, rfl⟩ := qh75
      have hfh75 := hfh63.tr (fh75.weak weak_PMk_PMko)
      show TT _ _ _ _ _ _ _ _ [] _
      refine tt_aload_n (pc := 29) dX7_label_29 (.head _) ?_
      refine tt_iload_n (pc := 30) dX7_label_30 (.tail _ (.head _)) ?_
      refine tt_iload_n (pc := 31) dX7_label_31 (.tail _ (.tail _ (.head _))) ?_
      refine tt_iload_n (pc := 32) dX7_label_32 (.tail _ (.tail _ (.tail _ (.head _)))) ?_
      refine tw_callV (kc := 0) (ks := 0) (mc := 0) (ms := 0) (as := [.inl a1, .inl a2, .inl a3]) (st := []) (pc := 33) wh75 ta0 (by decide) dX7_label_33 lkX7_221 imX7_asked seX7_asked rfl rfl (by decide) (by decide) (Nat.le_of_ble_eq_true rfl) (g_X7_asked hN2 hN8 hp0 hp64 wh75 a0 ta0 a1 (by omega) (by omega) a2 (by omega) (by omega) a3) (fun rv h76 qh76 => ?_)
      obtain ⟨rfl, x77, rfl, lx77, ux77⟩ := qh76
      show TT _ _ _ _ _ _ _ _ [.inl x77] _
      refine tt_istore (pc := 36) dX7_label_36 (by decide) ?_
      show TT _ _ _ _ _ _ _ [(5, .inl x77), (0, .inr (some a0)), (1, .inl a1), (2, .inl a2), (3, .inl a3), (4, .inl a4)] _ _
      refine tt_iload (pc := 38) dX7_label_38 (.tail _ (.tail _ (.tail _ (.tail _ (.tail _ (.head _)))))) ?_
      by_cases s78 : a4.toInt = 0
      · refine tw_tableK (c := 0) (off := 36) (tgt := 76) (pc := 40) dX7_label_40 (by decide) s78 (by decide) (by decide) (by decide) (by decide) ?_
        refine tt_aload_n (pc := 76) dX7_label_76 (.tail _ (.head _)) ?_
        refine tt_iload_n (pc := 77) dX7_label_77 (.tail _ (.tail _ (.head _))) ?_
        refine tt_iload_n (pc := 78) dX7_label_78 (.tail _ (.tail _ (.tail _ (.head _)))) ?_
        refine tw_callV (kc := 0) (ks := 0) (mc := 0) (ms := 0) (as := [.inl a1, .inl a2]) (st := []) (pc := 79) wh75 ta0 (by decide) dX7_label_79 lkX7_139 imX7_egress seX7_egress rfl rfl (by decide) (by decide) (Nat.le_of_ble_eq_true rfl) (g_X7_egress hN2 hN8 hp0 hp64 wh75 a0 ta0 a1 (by omega) (by omega) a2) (fun rv h79 qh79 => ?_)
        obtain ⟨rfl, x80, rfl, lx80, ux80⟩ := qh79
        show TT _ _ _ _ _ _ _ _ [.inl x80] _
        refine tt_stop ?_
        rw [hQ]
        exact Or.inr (Or.inl ⟨x80, dX7_label_82, rfl, Or.inl rfl, wh75, hfh75, x80, rfl, by omega, by omega⟩)
      by_cases s81 : a4.toInt = 1
      · refine tw_tableK (c := 1) (off := 43) (tgt := 83) (pc := 40) dX7_label_40 (by decide) s81 (by decide) (by decide) (by decide) (by decide) ?_
        refine tt_aload_n (pc := 83) dX7_label_83 (.tail _ (.head _)) ?_
        refine tw_getr (pc := 84) dX7_label_84 flX7_62 wh75 ta0 (by decide) rfl (fun f82 q83 ef82 gf82 tq83 => ?_)
        refine tw_bipush (pc := 87) dX7_label_87 (by decide) (fun x84 ex84 => ?_)
        refine tt_iload_n (pc := 89) dX7_label_89 (.tail _ (.tail _ (.head _))) ?_
        refine tw_imul (c := 8) (pc := 90) dX7_label_90 (by omega) (by omega) (fun x85 ex85 => ?_)
        refine tt_iload_n (pc := 91) dX7_label_91 (.tail _ (.tail _ (.tail _ (.head _)))) ?_
        refine tw_iadd (pc := 92) dX7_label_92 (by omega) (fun x86 ex86 => ?_)
        refine tw_ild (pc := 93) dX7_label_93 wh75 tq83 rfl (by omega) (by omega) (fun f88 x87 ef88 gf88 lx87 ux87 => ?_)
        refine tt_stop ?_
        rw [hQ]
        exact Or.inr (Or.inl ⟨x87, dX7_label_94, rfl, Or.inl rfl, wh75, hfh75, x87, rfl, by omega, by omega⟩)
      by_cases s89 : a4.toInt = 2
      · refine tw_tableK (c := 2) (off := 55) (tgt := 95) (pc := 40) dX7_label_40 (by decide) s89 (by decide) (by decide) (by decide) (by decide) ?_
        refine tt_aload_n (pc := 95) dX7_label_95 (.tail _ (.head _)) ?_
        refine tw_getr (pc := 96) dX7_label_96 flX7_62 wh75 ta0 (by decide) rfl (fun f90 q91 ef90 gf90 tq91 => ?_)
        refine tw_bipush (pc := 99) dX7_label_99 (by decide) (fun x92 ex92 => ?_)
        refine tt_iload_n (pc := 101) dX7_label_101 (.tail _ (.tail _ (.head _))) ?_
        refine tw_imul (c := 8) (pc := 102) dX7_label_102 (by omega) (by omega) (fun x93 ex93 => ?_)
        refine tt_iload_n (pc := 103) dX7_label_103 (.tail _ (.tail _ (.tail _ (.head _)))) ?_
        refine tw_iadd (pc := 104) dX7_label_104 (by omega) (fun x94 ex94 => ?_)
        refine tw_ild (pc := 105) dX7_label_105 wh75 tq91 rfl (by omega) (by omega) (fun f96 x95 ef96 gf96 lx95 ux95 => ?_)
        refine tw_iconst (pc := 106) dX7_label_106 (by decide) (fun x97 ex97 => ?_)
        refine tw_icmp (tgt := 114) (pc := 107) dX7_label_107 (by decide) (fun (c98 : x95.toInt ≠ x97.toInt) => ?_) (fun (c98 : ¬ (x95.toInt ≠ x97.toInt)) => ?_)
        · skip
          refine tt_aload_n (pc := 114) dX7_label_114 (.tail _ (.head _)) ?_
          refine tw_getr (pc := 115) dX7_label_115 flX7_65 wh75 ta0 (by decide) rfl (fun f99 q100 ef99 gf99 tq100 => ?_)
          refine tw_bipush (pc := 118) dX7_label_118 (by decide) (fun x101 ex101 => ?_)
          refine tt_iload_n (pc := 120) dX7_label_120 (.tail _ (.tail _ (.head _))) ?_
          refine tw_imul (c := 8) (pc := 121) dX7_label_121 (by omega) (by omega) (fun x102 ex102 => ?_)
          refine tt_iload_n (pc := 122) dX7_label_122 (.tail _ (.tail _ (.tail _ (.head _)))) ?_
          refine tw_iadd (pc := 123) dX7_label_123 (by omega) (fun x103 ex103 => ?_)
          refine tw_ild (pc := 124) dX7_label_124 wh75 tq100 rfl (by omega) (by omega) (fun f105 x104 ef105 gf105 lx104 ux104 => ?_)
          refine tt_stop ?_
          rw [hQ]
          exact Or.inr (Or.inl ⟨x104, dX7_label_125, rfl, Or.inl rfl, wh75, hfh75, x104, rfl, by omega, by omega⟩)
        · skip
          refine tw_iconst (pc := 110) dX7_label_110 (by decide) (fun x106 ex106 => ?_)
          refine tt_goto (tgt := 125) (pc := 111) dX7_label_111 (by decide) ?_
          refine tt_stop ?_
          rw [hQ]
          exact Or.inr (Or.inl ⟨x106, dX7_label_125, rfl, Or.inl rfl, wh75, hfh75, x106, rfl, by omega, by omega⟩)
      by_cases s107 : a4.toInt = 3
      · refine tw_tableK (c := 3) (off := 86) (tgt := 126) (pc := 40) dX7_label_40 (by decide) s107 (by decide) (by decide) (by decide) (by decide) ?_
        refine tt_iload (pc := 126) dX7_label_126 (.head _) ?_
        refine tw_iconst (pc := 128) dX7_label_128 (by decide) (fun x108 ex108 => ?_)
        refine tw_icmp (tgt := 136) (pc := 129) dX7_label_129 (by decide) (fun (c109 : x77.toInt ≠ x108.toInt) => ?_) (fun (c109 : ¬ (x77.toInt ≠ x108.toInt)) => ?_)
        · skip
          refine tt_aload_n (pc := 136) dX7_label_136 (.tail _ (.head _)) ?_
          refine tw_getr (pc := 137) dX7_label_137 flX7_56 wh75 ta0 (by decide) rfl (fun f110 q111 ef110 gf110 tq111 => ?_)
          refine tt_iload (pc := 140) dX7_label_140 (.head _) ?_
          refine tw_ild (pc := 142) dX7_label_142 wh75 tq111 rfl (by omega) (by omega) (fun f113 x112 ef113 gf113 lx112 ux112 => ?_)
          refine tt_stop ?_
          rw [hQ]
          exact Or.inr (Or.inl ⟨x112, dX7_label_143, rfl, Or.inl rfl, wh75, hfh75, x112, rfl, by omega, by omega⟩)
        · skip
          refine tw_iconst (pc := 132) dX7_label_132 (by decide) (fun x114 ex114 => ?_)
          refine tt_goto (tgt := 143) (pc := 133) dX7_label_133 (by decide) ?_
          refine tt_stop ?_
          rw [hQ]
          exact Or.inr (Or.inl ⟨x114, dX7_label_143, rfl, Or.inl rfl, wh75, hfh75, x114, rfl, by omega, by omega⟩)
      by_cases s115 : a4.toInt = 4
      · refine tw_tableK (c := 4) (off := 104) (tgt := 144) (pc := 40) dX7_label_40 (by decide) s115 (by decide) (by decide) (by decide) (by decide) ?_
        refine tt_iload (pc := 144) dX7_label_144 (.head _) ?_
        refine tw_iconst (pc := 146) dX7_label_146 (by decide) (fun x116 ex116 => ?_)
        refine tw_icmp (tgt := 154) (pc := 147) dX7_label_147 (by decide) (fun (c117 : x77.toInt ≠ x116.toInt) => ?_) (fun (c117 : ¬ (x77.toInt ≠ x116.toInt)) => ?_)
        · skip
          refine tt_aload_n (pc := 154) dX7_label_154 (.tail _ (.head _)) ?_
          refine tw_getr (pc := 155) dX7_label_155 flX7_59 wh75 ta0 (by decide) rfl (fun f118 q119 ef118 gf118 tq119 => ?_)
          refine tt_iload (pc := 158) dX7_label_158 (.head _) ?_
          refine tw_ild (pc := 160) dX7_label_160 wh75 tq119 rfl (by omega) (by omega) (fun f121 x120 ef121 gf121 lx120 ux120 => ?_)
          refine tt_stop ?_
          rw [hQ]
          exact Or.inr (Or.inl ⟨x120, dX7_label_161, rfl, Or.inl rfl, wh75, hfh75, x120, rfl, by omega, by omega⟩)
        · skip
          refine tw_iconst (pc := 150) dX7_label_150 (by decide) (fun x122 ex122 => ?_)
          refine tt_goto (tgt := 161) (pc := 151) dX7_label_151 (by decide) ?_
          refine tt_stop ?_
          rw [hQ]
          exact Or.inr (Or.inl ⟨x122, dX7_label_161, rfl, Or.inl rfl, wh75, hfh75, x122, rfl, by omega, by omega⟩)
      refine tw_tableD (tgt := 162) (pc := 40) dX7_label_40 (by decide) (by omega) (by decide) ?_
      refine tw_iconst (pc := 162) dX7_label_162 (by decide) (fun x123 ex123 => ?_)
      refine tt_stop ?_
      rw [hQ]
      exact Or.inr (Or.inl ⟨x123, dX7_label_163, rfl, Or.inl rfl, wh75, hfh75, x123, rfl, by omega, by omega⟩)
    · skip
      refine tt_loc [] (fun _ z => absurd z List.not_mem_nil) ?_
      exact B22 h63 wh63 hfh63
abbrev mX7_count : tM := (RX7, cX7_count, 5, 2, 42, false)
set_option maxHeartbeats 4000000 in
theorem g_X7_count {l : Launch} {D : va_G} {N : Nat} {pk : Int} {τ : List Nat} (hN2 : 2 ≤ N) (hN8 : N ≤ 8) (hp0 : 0 ≤ pk) (hp64 : pk ≤ 64) {h : List tC} (hw : WT N pk τ h) (a0 : Nat) (ta0 : τ[a0]? = some 7) (a1 : Int32) (a2 : Int32) : TMc l D yX7_count cX7_count 5 (some .int) 2 42 0 0 [.inr (some a0), .inl a1, .inl a2] h (fun rv h' => WT N pk τ h' ∧ Fr PMko τ h h' ∧ ∃ x : Int32, rv = some (.inl x) ∧ -2147483648 ≤ x.toInt ∧ x.toInt ≤ 2147483647) := by
  refine tmc_of false rfl (by decide) (Nat.le_of_ble_eq_true rfl) ?_
  suffices HQ : ∀ Q0, Q0 = tRt cX7_count (some .int) (fun rv h' => WT N pk τ h' ∧ Fr PMko τ h h' ∧ ∃ x : Int32, rv = some (.inl x) ∧ -2147483648 ≤ x.toInt ∧ x.toInt ≤ 2147483647) → TT l D mX7_count Q0 0 0 0 [(0, .inr (some a0)), (1, .inl a1), (2, .inl a2)] [] h from HQ _ rfl
  intro Q0 hQ
  have hf : Fr PMko τ h h := Fr.rf
  have B147 : ∀ (n147 : Nat) (hb : List tC) (hwb : WT N pk τ hb) (hfb : Fr PMko τ h hb) (x1551 : Int32) (x1552 : Int32) (lx1552 : 0 ≤ x1552.toInt) (ux1552 : x1552.toInt ≤ 12), 12 - x1552.toInt < n147 → TT l D mX7_count Q0 0 0 147 [(0, .inr (some a0)), (3, .inl x1551), (4, .inl x1552)] [] hb := by
    intro n147
    induction n147 with
    | zero =>
      intro hb hwb hfb x1551 x1552 lx1552 ux1552 hn147
      exfalso
      omega
    | succ n147 ih147 =>
      intro hb hwb hfb x1551 x1552 lx1552 ux1552 hn147
      have bx1551 := i_ty x1551
      refine tt_iload (pc := 147) dX7_count_147 (.tail _ (.tail _ (.head _))) ?_
      refine tw_bipush (pc := 149) dX7_count_149 (by decide) (fun x1553 ex1553 => ?_)
      refine tw_icmp (tgt := 178) (pc := 151) dX7_count_151 (by decide) (fun (c1554 : x1553.toInt ≤ x1552.toInt) => ?_) (fun (c1554 : ¬ (x1553.toInt ≤ x1552.toInt)) => ?_)
      · skip
        refine tt_iload_n (pc := 178) dX7_count_178 (.tail _ (.head _)) ?_
        refine tt_stop ?_
        rw [hQ]
        exact Or.inr (Or.inl ⟨x1551, dX7_count_179, rfl, Or.inl rfl, hwb, hfb, x1551, rfl, by omega, by omega⟩)
      · skip
        refine tt_aload_n (pc := 154) dX7_count_154 (.head _) ?_
        refine tw_getr (pc := 155) dX7_count_155 flX7_13 hwb ta0 (by decide) rfl (fun f1555 q1556 ef1555 gf1555 tq1556 => ?_)
        refine tt_iload (pc := 158) dX7_count_158 (.tail _ (.tail _ (.head _))) ?_
        refine tw_zld (pc := 160) dX7_count_160 hwb tq1556 rfl (by omega) (by omega) (fun f1558 x1557 ef1558 gf1558 lx1557 ux1557 => ?_)
        refine tw_if (tgt := 170) (pc := 161) dX7_count_161 (by decide) (fun (c1559 : x1557.toInt = 0) => ?_) (fun (c1559 : ¬ (x1557.toInt = 0)) => ?_)
        · skip
          refine tt_iload_n (pc := 170) dX7_count_170 (.tail _ (.head _)) ?_
          refine tt_istore_n (pc := 171) dX7_count_171 (by decide) ?_
          show TT _ _ _ _ _ _ _ [(3, .inl x1551), (0, .inr (some a0)), (4, .inl x1552)] _ _
          refine tw_iinc (pc := 172) dX7_count_172 (.tail _ (.tail _ (.head _))) (by decide) (by decide) (by omega) (fun x1560 ex1560 => ?_)
          show TT _ _ _ _ _ _ _ [(4, .inl x1560), (3, .inl x1551), (0, .inr (some a0))] _ _
          refine tt_goto (tgt := 147) (pc := 175) dX7_count_175 (by decide) ?_
          refine tt_loc [(0, .inr (some a0)), (3, .inl x1551), (4, .inl x1560)] (List.forall_mem_cons.mpr ⟨(.tail _ (.tail _ (.head _))), List.forall_mem_cons.mpr ⟨(.tail _ (.head _)), List.forall_mem_cons.mpr ⟨(.head _), fun _ z => absurd z List.not_mem_nil⟩⟩⟩) ?_
          exact ih147 hb hwb hfb x1551 x1560 (by omega) (by omega) (by omega)
        · skip
          refine tt_iload_n (pc := 164) dX7_count_164 (.tail _ (.head _)) ?_
          refine tw_iconst (pc := 165) dX7_count_165 (by decide) (fun x1561 ex1561 => ?_)
          refine tt_iadd (pc := 166) dX7_count_166 ?_
          refine tw_any (fun x1562 => ?_)
          have bx1562 := i_ty x1562
          refine tt_goto (tgt := 171) (pc := 167) dX7_count_167 (by decide) ?_
          refine tt_istore_n (pc := 171) dX7_count_171 (by decide) ?_
          show TT _ _ _ _ _ _ _ [(3, .inl x1562), (0, .inr (some a0)), (4, .inl x1552)] _ _
          refine tw_iinc (pc := 172) dX7_count_172 (.tail _ (.tail _ (.head _))) (by decide) (by decide) (by omega) (fun x1563 ex1563 => ?_)
          show TT _ _ _ _ _ _ _ [(4, .inl x1563), (3, .inl x1562), (0, .inr (some a0))] _ _
          refine tt_goto (tgt := 147) (pc := 175) dX7_count_175 (by decide) ?_
          refine tt_loc [(0, .inr (some a0)), (3, .inl x1562), (4, .inl x1563)] (List.forall_mem_cons.mpr ⟨(.tail _ (.tail _ (.head _))), List.forall_mem_cons.mpr ⟨(.tail _ (.head _)), List.forall_mem_cons.mpr ⟨(.head _), fun _ z => absurd z List.not_mem_nil⟩⟩⟩) ?_
          exact ih147 hb hwb hfb x1562 x1563 (by omega) (by omega) (by omega)
  have B109 : ∀ (n109 : Nat) (hb : List tC) (hwb : WT N pk τ hb) (hfb : Fr PMko τ h hb) (x1564 : Int32) (x1565 : Int32) (lx1565 : 0 ≤ x1565.toInt) (ux1565 : x1565.toInt ≤ 64), 64 - x1565.toInt < n109 → TT l D mX7_count Q0 0 0 109 [(0, .inr (some a0)), (3, .inl x1564), (4, .inl x1565)] [] hb := by
    intro n109
    induction n109 with
    | zero =>
      intro hb hwb hfb x1564 x1565 lx1565 ux1565 hn109
      exfalso
      omega
    | succ n109 ih109 =>
      intro hb hwb hfb x1564 x1565 lx1565 ux1565 hn109
      have bx1564 := i_ty x1564
      refine tt_iload (pc := 109) dX7_count_109 (.tail _ (.tail _ (.head _))) ?_
      refine tt_aload_n (pc := 111) dX7_count_111 (.head _) ?_
      refine tw_geti (pc := 112) dX7_count_112 flX7_218 hwb ta0 (by decide) rfl (fun f1566 x1567 ef1566 gf1566 lx1567 ux1567 => ?_)
      refine tw_icmp (tgt := 142) (pc := 115) dX7_count_115 (by decide) (fun (c1568 : x1567.toInt ≤ x1565.toInt) => ?_) (fun (c1568 : ¬ (x1567.toInt ≤ x1565.toInt)) => ?_)
      · skip
        refine tt_iload_n (pc := 142) dX7_count_142 (.tail _ (.head _)) ?_
        refine tt_stop ?_
        rw [hQ]
        exact Or.inr (Or.inl ⟨x1564, dX7_count_143, rfl, Or.inl rfl, hwb, hfb, x1564, rfl, by omega, by omega⟩)
      · skip
        refine tt_aload_n (pc := 118) dX7_count_118 (.head _) ?_
        refine tw_getr (pc := 119) dX7_count_119 flX7_83 hwb ta0 (by decide) rfl (fun f1569 q1570 ef1569 gf1569 tq1570 => ?_)
        refine tt_iload (pc := 122) dX7_count_122 (.tail _ (.tail _ (.head _))) ?_
        refine tw_ild (pc := 124) dX7_count_124 hwb tq1570 rfl (by omega) (by omega) (fun f1572 x1571 ef1572 gf1572 lx1571 ux1571 => ?_)
        refine tw_if (tgt := 134) (pc := 125) dX7_count_125 (by decide) (fun (c1573 : x1571.toInt ≠ 0) => ?_) (fun (c1573 : ¬ (x1571.toInt ≠ 0)) => ?_)
        · skip
          refine tt_iload_n (pc := 134) dX7_count_134 (.tail _ (.head _)) ?_
          refine tt_istore_n (pc := 135) dX7_count_135 (by decide) ?_
          show TT _ _ _ _ _ _ _ [(3, .inl x1564), (0, .inr (some a0)), (4, .inl x1565)] _ _
          refine tw_iinc (pc := 136) dX7_count_136 (.tail _ (.tail _ (.head _))) (by decide) (by decide) (by omega) (fun x1574 ex1574 => ?_)
          show TT _ _ _ _ _ _ _ [(4, .inl x1574), (3, .inl x1564), (0, .inr (some a0))] _ _
          refine tt_goto (tgt := 109) (pc := 139) dX7_count_139 (by decide) ?_
          refine tt_loc [(0, .inr (some a0)), (3, .inl x1564), (4, .inl x1574)] (List.forall_mem_cons.mpr ⟨(.tail _ (.tail _ (.head _))), List.forall_mem_cons.mpr ⟨(.tail _ (.head _)), List.forall_mem_cons.mpr ⟨(.head _), fun _ z => absurd z List.not_mem_nil⟩⟩⟩) ?_
          exact ih109 hb hwb hfb x1564 x1574 (by omega) (by omega) (by omega)
        · skip
          refine tt_iload_n (pc := 128) dX7_count_128 (.tail _ (.head _)) ?_
          refine tw_iconst (pc := 129) dX7_count_129 (by decide) (fun x1575 ex1575 => ?_)
          refine tt_iadd (pc := 130) dX7_count_130 ?_
          refine tw_any (fun x1576 => ?_)
          have bx1576 := i_ty x1576
          refine tt_goto (tgt := 135) (pc := 131) dX7_count_131 (by decide) ?_
          refine tt_istore_n (pc := 135) dX7_count_135 (by decide) ?_
          show TT _ _ _ _ _ _ _ [(3, .inl x1576), (0, .inr (some a0)), (4, .inl x1565)] _ _
          refine tw_iinc (pc := 136) dX7_count_136 (.tail _ (.tail _ (.head _))) (by decide) (by decide) (by omega) (fun x1577 ex1577 => ?_)
          show TT _ _ _ _ _ _ _ [(4, .inl x1577), (3, .inl x1576), (0, .inr (some a0))] _ _
          refine tt_goto (tgt := 109) (pc := 139) dX7_count_139 (by decide) ?_
          refine tt_loc [(0, .inr (some a0)), (3, .inl x1576), (4, .inl x1577)] (List.forall_mem_cons.mpr ⟨(.tail _ (.tail _ (.head _))), List.forall_mem_cons.mpr ⟨(.tail _ (.head _)), List.forall_mem_cons.mpr ⟨(.head _), fun _ z => absurd z List.not_mem_nil⟩⟩⟩) ?_
          exact ih109 hb hwb hfb x1576 x1577 (by omega) (by omega) (by omega)
  have B87 : ∀ (hb : List tC) (hwb : WT N pk τ hb) (hfb : Fr PMko τ h hb) (x1578 : Int32), TT l D mX7_count Q0 0 0 87 [(0, .inr (some a0)), (1, .inl a1), (3, .inl x1578)] [] hb := by
    intro hb hwb hfb x1578
    have bx1578 := i_ty x1578
    refine tt_aload_n (pc := 87) dX7_count_87 (.head _) ?_
    refine tt_iload_n (pc := 88) dX7_count_88 (.tail _ (.head _)) ?_
    refine tw_callV (kc := 0) (ks := 0) (mc := 0) (ms := 0) (as := [.inl a1]) (st := []) (pc := 89) hwb ta0 (by decide) dX7_count_89 lkX7_189 imX7_isRouter seX7_isRouter rfl rfl (by decide) (by decide) (Nat.le_of_ble_eq_true rfl) (g_X7_isRouter hN2 hN8 hp0 hp64 hwb a0 ta0 a1) (fun rv h1579 qh1579 => ?_)
    obtain ⟨rfl, x1580, rfl, lx1580, ux1580, Gx1580, Zx1580⟩ := qh1579
    show TT _ _ _ _ _ _ _ _ [.inl x1580] _
    refine tw_if (tgt := 99) (pc := 92) dX7_count_92 (by decide) (fun (c1583 : x1580.toInt = 0) => ?_) (fun (c1583 : ¬ (x1580.toInt = 0)) => ?_)
    · skip
      refine tw_iconst (pc := 99) dX7_count_99 (by decide) (fun x1584 ex1584 => ?_)
      refine tt_stop ?_
      rw [hQ]
      exact Or.inr (Or.inl ⟨x1584, dX7_count_100, rfl, Or.inl rfl, hwb, hfb, x1584, rfl, by omega, by omega⟩)
    · skip
      obtain ⟨b1581, b1582⟩ := Gx1580 (by omega)
      refine tt_iload_n (pc := 95) dX7_count_95 (.tail _ (.tail _ (.head _))) ?_
      refine tt_goto (tgt := 100) (pc := 96) dX7_count_96 (by decide) ?_
      refine tt_stop ?_
      rw [hQ]
      exact Or.inr (Or.inl ⟨x1578, dX7_count_100, rfl, Or.inl rfl, hwb, hfb, x1578, rfl, by omega, by omega⟩)
  have B43 : ∀ (n43 : Nat) (hb : List tC) (hwb : WT N pk τ hb) (hfb : Fr PMko τ h hb) (x1585 : Int32) (x1586 : Int32) (lx1586 : 0 ≤ x1586.toInt) (ux1586 : x1586.toInt ≤ 64), 64 - x1586.toInt < n43 → TT l D mX7_count Q0 0 0 43 [(0, .inr (some a0)), (1, .inl a1), (3, .inl x1585), (4, .inl x1586)] [] hb := by
    intro n43
    induction n43 with
    | zero =>
      intro hb hwb hfb x1585 x1586 lx1586 ux1586 hn43
      exfalso
      omega
    | succ n43 ih43 =>
      intro hb hwb hfb x1585 x1586 lx1586 ux1586 hn43
      have bx1585 := i_ty x1585
      refine tt_iload (pc := 43) dX7_count_43 (.tail _ (.tail _ (.tail _ (.head _)))) ?_
      refine tw_bipush (pc := 45) dX7_count_45 (by decide) (fun x1587 ex1587 => ?_)
      refine tw_icmp (tgt := 87) (pc := 47) dX7_count_47 (by decide) (fun (c1588 : x1587.toInt ≤ x1586.toInt) => ?_) (fun (c1588 : ¬ (x1587.toInt ≤ x1586.toInt)) => ?_)
      · skip
        refine tt_loc [(0, .inr (some a0)), (1, .inl a1), (3, .inl x1585)] (List.forall_mem_cons.mpr ⟨(.head _), List.forall_mem_cons.mpr ⟨(.tail _ (.head _)), List.forall_mem_cons.mpr ⟨(.tail _ (.tail _ (.head _))), fun _ z => absurd z List.not_mem_nil⟩⟩⟩) ?_
        exact B87 hb hwb hfb x1585
      · skip
        refine tt_aload_n (pc := 50) dX7_count_50 (.head _) ?_
        refine tt_iload_n (pc := 51) dX7_count_51 (.tail _ (.head _)) ?_
        refine tw_callV (kc := 0) (ks := 0) (mc := 0) (ms := 0) (as := [.inl a1]) (st := []) (pc := 52) hwb ta0 (by decide) dX7_count_52 lkX7_189 imX7_isRouter seX7_isRouter rfl rfl (by decide) (by decide) (Nat.le_of_ble_eq_true rfl) (g_X7_isRouter hN2 hN8 hp0 hp64 hwb a0 ta0 a1) (fun rv h1589 qh1589 => ?_)
        obtain ⟨rfl, x1590, rfl, lx1590, ux1590, Gx1590, Zx1590⟩ := qh1589
        show TT _ _ _ _ _ _ _ _ [.inl x1590] _
        refine tw_if (tgt := 87) (pc := 55) dX7_count_55 (by decide) (fun (c1593 : x1590.toInt = 0) => ?_) (fun (c1593 : ¬ (x1590.toInt = 0)) => ?_)
        · skip
          refine tt_loc [(0, .inr (some a0)), (1, .inl a1), (3, .inl x1585)] (List.forall_mem_cons.mpr ⟨(.head _), List.forall_mem_cons.mpr ⟨(.tail _ (.head _)), List.forall_mem_cons.mpr ⟨(.tail _ (.tail _ (.head _))), fun _ z => absurd z List.not_mem_nil⟩⟩⟩) ?_
          exact B87 hb hwb hfb x1585
        · skip
          obtain ⟨b1591, b1592⟩ := Gx1590 (by omega)
          refine tt_aload_n (pc := 58) dX7_count_58 (.head _) ?_
          refine tw_getr (pc := 59) dX7_count_59 flX7_68 hwb ta0 (by decide) rfl (fun f1594 q1595 ef1594 gf1594 tq1595 => ?_)
          refine tw_bipush (pc := 62) dX7_count_62 (by decide) (fun x1596 ex1596 => ?_)
          refine tt_iload_n (pc := 64) dX7_count_64 (.tail _ (.head _)) ?_
          refine tw_imul (c := 64) (pc := 65) dX7_count_65 (by omega) (by omega) (fun x1597 ex1597 => ?_)
          refine tt_iload (pc := 66) dX7_count_66 (.tail _ (.tail _ (.tail _ (.head _)))) ?_
          refine tw_iadd (pc := 68) dX7_count_68 (by omega) (fun x1598 ex1598 => ?_)
          refine tw_ild (pc := 69) dX7_count_69 hwb tq1595 rfl (by omega) (by omega) (fun f1600 x1599 ef1600 gf1600 lx1599 ux1599 => ?_)
          refine tw_if (tgt := 79) (pc := 70) dX7_count_70 (by decide) (fun (c1601 : x1599.toInt ≤ 0) => ?_) (fun (c1601 : ¬ (x1599.toInt ≤ 0)) => ?_)
          · skip
            refine tt_iload_n (pc := 79) dX7_count_79 (.tail _ (.tail _ (.head _))) ?_
            refine tt_istore_n (pc := 80) dX7_count_80 (by decide) ?_
            show TT _ _ _ _ _ _ _ [(3, .inl x1585), (0, .inr (some a0)), (1, .inl a1), (4, .inl x1586)] _ _
            refine tw_iinc (pc := 81) dX7_count_81 (.tail _ (.tail _ (.tail _ (.head _)))) (by decide) (by decide) (by omega) (fun x1602 ex1602 => ?_)
            show TT _ _ _ _ _ _ _ [(4, .inl x1602), (3, .inl x1585), (0, .inr (some a0)), (1, .inl a1)] _ _
            refine tt_goto (tgt := 43) (pc := 84) dX7_count_84 (by decide) ?_
            refine tt_loc [(0, .inr (some a0)), (1, .inl a1), (3, .inl x1585), (4, .inl x1602)] (List.forall_mem_cons.mpr ⟨(.tail _ (.tail _ (.head _))), List.forall_mem_cons.mpr ⟨(.tail _ (.tail _ (.tail _ (.head _)))), List.forall_mem_cons.mpr ⟨(.tail _ (.head _)), List.forall_mem_cons.mpr ⟨(.head _), fun _ z => absurd z List.not_mem_nil⟩⟩⟩⟩) ?_
            exact ih43 hb hwb hfb x1585 x1602 (by omega) (by omega) (by omega)
          · skip
            refine tt_iload_n (pc := 73) dX7_count_73 (.tail _ (.tail _ (.head _))) ?_
            refine tw_iconst (pc := 74) dX7_count_74 (by decide) (fun x1603 ex1603 => ?_)
            refine tt_iadd (pc := 75) dX7_count_75 ?_
            refine tw_any (fun x1604 => ?_)
            have bx1604 := i_ty x1604
            refine tt_goto (tgt := 80) (pc := 76) dX7_count_76 (by decide) ?_
            refine tt_istore_n (pc := 80) dX7_count_80 (by decide) ?_
            show TT _ _ _ _ _ _ _ [(3, .inl x1604), (0, .inr (some a0)), (1, .inl a1), (4, .inl x1586)] _ _
            refine tw_iinc (pc := 81) dX7_count_81 (.tail _ (.tail _ (.tail _ (.head _)))) (by decide) (by decide) (by omega) (fun x1605 ex1605 => ?_)
            show TT _ _ _ _ _ _ _ [(4, .inl x1605), (3, .inl x1604), (0, .inr (some a0)), (1, .inl a1)] _ _
            refine tt_goto (tgt := 43) (pc := 84) dX7_count_84 (by decide) ?_
            refine tt_loc [(0, .inr (some a0)), (1, .inl a1), (3, .inl x1604), (4, .inl x1605)] (List.forall_mem_cons.mpr ⟨(.tail _ (.tail _ (.head _))), List.forall_mem_cons.mpr ⟨(.tail _ (.tail _ (.tail _ (.head _)))), List.forall_mem_cons.mpr ⟨(.tail _ (.head _)), List.forall_mem_cons.mpr ⟨(.head _), fun _ z => absurd z List.not_mem_nil⟩⟩⟩⟩) ?_
            exact ih43 hb hwb hfb x1604 x1605 (by omega) (by omega) (by omega)
  have ba1 := i_ty a1
  have ba2 := i_ty a2
  refine tt_aload_n (pc := 0) dX7_count_0 (.head _) ?_
  refine tw_iconst (pc := 1) dX7_count_1 (by decide) (fun x1606 ex1606 => ?_)
  refine tw_put (P := PMko) (pc := 2) dX7_count_2 flX7_96 hw ta0 (by decide) rfl ⟨by omega, by omega⟩ rfl (by decide) (by decide) (fun f1607 h1608 eh1608 gh1608 kh1608 wh1608 fh1608 => ?_)
  have hfh1608 := hf.tr fh1608
  refine tw_iconst (pc := 5) dX7_count_5 (by decide) (fun x1609 ex1609 => ?_)
  refine tt_istore_n (pc := 6) dX7_count_6 (by decide) ?_
  show TT _ _ _ _ _ _ _ [(3, .inl x1609), (0, .inr (some a0)), (1, .inl a1), (2, .inl a2)] _ _
  refine tt_iload_n (pc := 7) dX7_count_7 (.tail _ (.tail _ (.tail _ (.head _)))) ?_
  by_cases s1610 : a2.toInt = 0
  · refine tw_tableK (c := 0) (off := 32) (tgt := 40) (pc := 8) dX7_count_8 (by decide) s1610 (by decide) (by decide) (by decide) (by decide) ?_
    refine tw_iconst (pc := 40) dX7_count_40 (by decide) (fun x1611 ex1611 => ?_)
    refine tt_istore (pc := 41) dX7_count_41 (by decide) ?_
    show TT _ _ _ _ _ _ _ [(4, .inl x1611), (3, .inl x1609), (0, .inr (some a0)), (1, .inl a1), (2, .inl a2)] _ _
    refine tt_loc [(0, .inr (some a0)), (1, .inl a1), (3, .inl x1609), (4, .inl x1611)] (List.forall_mem_cons.mpr ⟨(.tail _ (.tail _ (.head _))), List.forall_mem_cons.mpr ⟨(.tail _ (.tail _ (.tail _ (.head _)))), List.forall_mem_cons.mpr ⟨(.tail _ (.head _)), List.forall_mem_cons.mpr ⟨(.head _), fun _ z => absurd z List.not_mem_nil⟩⟩⟩⟩) ?_
    exact B43 65 h1608 wh1608 hfh1608 x1609 x1611 (by omega) (by omega) (by omega)
  by_cases s1612 : a2.toInt = 1
  · refine tw_tableK (c := 1) (off := 93) (tgt := 101) (pc := 8) dX7_count_8 (by decide) s1612 (by decide) (by decide) (by decide) (by decide) ?_
    refine tt_aload_n (pc := 101) dX7_count_101 (.tail _ (.head _)) ?_
    refine tw_geti (pc := 102) dX7_count_102 flX7_107 wh1608 ta0 (by decide) rfl (fun f1613 x1614 ef1613 gf1613 lx1614 ux1614 => ?_)
    refine tt_stop ?_
    rw [hQ]
    exact Or.inr (Or.inl ⟨x1614, dX7_count_105, rfl, Or.inl rfl, wh1608, hfh1608, x1614, rfl, by omega, by omega⟩)
  by_cases s1615 : a2.toInt = 2
  · refine tw_tableK (c := 2) (off := 98) (tgt := 106) (pc := 8) dX7_count_8 (by decide) s1615 (by decide) (by decide) (by decide) (by decide) ?_
    refine tw_iconst (pc := 106) dX7_count_106 (by decide) (fun x1616 ex1616 => ?_)
    refine tt_istore (pc := 107) dX7_count_107 (by decide) ?_
    show TT _ _ _ _ _ _ _ [(4, .inl x1616), (3, .inl x1609), (0, .inr (some a0)), (1, .inl a1), (2, .inl a2)] _ _
    refine tt_loc [(0, .inr (some a0)), (3, .inl x1609), (4, .inl x1616)] (List.forall_mem_cons.mpr ⟨(.tail _ (.tail _ (.head _))), List.forall_mem_cons.mpr ⟨(.tail _ (.head _)), List.forall_mem_cons.mpr ⟨(.head _), fun _ z => absurd z List.not_mem_nil⟩⟩⟩) ?_
    exact B109 65 h1608 wh1608 hfh1608 x1609 x1616 (by omega) (by omega) (by omega)
  by_cases s1617 : a2.toInt = 3
  · refine tw_tableK (c := 3) (off := 136) (tgt := 144) (pc := 8) dX7_count_8 (by decide) s1617 (by decide) (by decide) (by decide) (by decide) ?_
    refine tw_iconst (pc := 144) dX7_count_144 (by decide) (fun x1618 ex1618 => ?_)
    refine tt_istore (pc := 145) dX7_count_145 (by decide) ?_
    show TT _ _ _ _ _ _ _ [(4, .inl x1618), (3, .inl x1609), (0, .inr (some a0)), (1, .inl a1), (2, .inl a2)] _ _
    refine tt_loc [(0, .inr (some a0)), (3, .inl x1609), (4, .inl x1618)] (List.forall_mem_cons.mpr ⟨(.tail _ (.tail _ (.head _))), List.forall_mem_cons.mpr ⟨(.tail _ (.head _)), List.forall_mem_cons.mpr ⟨(.head _), fun _ z => absurd z List.not_mem_nil⟩⟩⟩) ?_
    exact B147 13 h1608 wh1608 hfh1608 x1609 x1618 (by omega) (by omega) (by omega)
  refine tw_tableD (tgt := 180) (pc := 8) dX7_count_8 (by decide) (by omega) (by decide) ?_
  refine tw_iconst (pc := 180) dX7_count_180 (by decide) (fun x1619 ex1619 => ?_)
  refine tt_stop ?_
  rw [hQ]
  exact Or.inr (Or.inl ⟨x1619, dX7_count_181, rfl, Or.inl rfl, wh1608, hfh1608, x1619, rfl, by omega, by omega⟩)
abbrev mX7_spoil : tM := (RX7, cX7_spoil, 5, 2, 42, false)
set_option maxHeartbeats 4000000 in
theorem g_X7_spoil {l : Launch} {D : va_G} {N : Nat} {pk : Int} {τ : List Nat} (hN2 : 2 ≤ N) (hN8 : N ≤ 8) (hp0 : 0 ≤ pk) (hp64 : pk ≤ 64) {h : List tC} (hw : WT N pk τ h) (a0 : Nat) (ta0 : τ[a0]? = some 7) (a1 : Int32) (a2 : Int32) (a3 : Int32) : TMc l D yX7_spoil cX7_spoil 5 (some .boolean) 2 42 0 0 [.inr (some a0), .inl a1, .inl a2, .inl a3] h (fun rv h' => WT N pk τ h' ∧ Fr PMko τ h h' ∧ ∃ x : Int32, rv = some (.inl x) ∧ 0 ≤ x.toInt ∧ x.toInt ≤ 1) := by
  refine tmc_of false rfl (by decide) (Nat.le_of_ble_eq_true rfl) ?_
  suffices HQ : ∀ Q0, Q0 = tRt cX7_spoil (some .boolean) (fun rv h' => WT N pk τ h' ∧ Fr PMko τ h h' ∧ ∃ x : Int32, rv = some (.inl x) ∧ 0 ≤ x.toInt ∧ x.toInt ≤ 1) → TT l D mX7_spoil Q0 0 0 0 [(0, .inr (some a0)), (1, .inl a1), (2, .inl a2), (3, .inl a3)] [] h from HQ _ rfl
  intro Q0 hQ
  have hf : Fr PMko τ h h := Fr.rf
  have ba1 := i_ty a1
  have ba2 := i_ty a2
  have ba3 := i_ty a3
  refine tt_aload_n (pc := 0) dX7_spoil_0 (.head _) ?_
  refine tt_iload_n (pc := 1) dX7_spoil_1 (.tail _ (.head _)) ?_
  refine tt_iload_n (pc := 2) dX7_spoil_2 (.tail _ (.tail _ (.head _))) ?_
  refine tt_callS (kc := 0) (ks := 0) (mc := 0) (ms := 0) (as := [.inl a1, .inl a2]) (st := [.inr (some a0)]) (pc := 3) dX7_spoil_3 lkX7_212 smX7_isEnd rfl (by decide) (by decide) (Nat.le_of_ble_eq_true rfl) (g_X7_isEnd hN2 hN8 hp0 hp64 hw a1 a2) (fun rv h38 qh38 => ?_)
  obtain ⟨rfl, x39, rfl, lx39, ux39, Gx39, Zx39⟩ := qh38
  show TT _ _ _ _ _ _ _ _ [.inl x39, .inr (some a0)] _
  refine tw_iconst (pc := 6) dX7_spoil_6 (by decide) (fun x44 ex44 => ?_)
  refine tw_callV (kc := 0) (ks := 0) (mc := 0) (ms := 0) (as := [.inl x39, .inl x44]) (st := []) (pc := 7) hw ta0 (by decide) dX7_spoil_7 lkX7_193 imX7_goes seX7_goes rfl rfl (by decide) (by decide) (Nat.le_of_ble_eq_true rfl) (g_X7_goes hN2 hN8 hp0 hp64 hw a0 ta0 x39 (by omega) (by omega) x44 (by omega) (by omega)) (fun rv h45 qh45 => ?_)
  obtain ⟨wh45, fh45, x46, rfl, lx46, ux46, Gx46⟩ := qh45
  have hfh45 := hf.tr fh45
  show TT _ _ _ _ _ _ _ _ [.inl x46] _
  refine tw_if (tgt := 15) (pc := 10) dX7_spoil_10 (by decide) (fun (c51 : x46.toInt ≠ 0) => ?_) (fun (c51 : ¬ (x46.toInt ≠ 0)) => ?_)
  · skip
    obtain ⟨b47, b48, b49, b50⟩ := Gx46 (by omega)
    obtain ⟨b40, b41, b42, b43⟩ := Gx39 (by omega)
    refine tw_iconst (pc := 15) dX7_spoil_15 (by decide) (fun x52 ex52 => ?_)
    refine tt_iload_n (pc := 16) dX7_spoil_16 (.tail _ (.head _)) ?_
    refine tw_imul (c := 2) (pc := 17) dX7_spoil_17 (by omega) (by omega) (fun x53 ex53 => ?_)
    refine tt_iload_n (pc := 18) dX7_spoil_18 (.tail _ (.tail _ (.head _))) ?_
    refine tw_iadd (pc := 19) dX7_spoil_19 (by omega) (fun x54 ex54 => ?_)
    refine tt_istore (pc := 20) dX7_spoil_20 (by decide) ?_
    show TT _ _ _ _ _ _ _ [(4, .inl x54), (0, .inr (some a0)), (1, .inl a1), (2, .inl a2), (3, .inl a3)] _ _
    refine tt_iload_n (pc := 22) dX7_spoil_22 (.tail _ (.tail _ (.tail _ (.tail _ (.head _))))) ?_
    refine tt_aload_n (pc := 23) dX7_spoil_23 (.tail _ (.head _)) ?_
    refine tw_getr (pc := 24) dX7_spoil_24 flX7_38 wh45 ta0 (by decide) rfl (fun f55 q56 ef55 gf55 tq56 => ?_)
    refine tt_iload (pc := 27) dX7_spoil_27 (.head _) ?_
    refine tw_ild (pc := 29) dX7_spoil_29 wh45 tq56 rfl (by omega) (by omega) (fun f58 x57 ef58 gf58 lx57 ux57 => ?_)
    refine tt_callS (kc := 0) (ks := 0) (mc := 0) (ms := 0) (as := [.inl a3, .inl x57]) (st := []) (pc := 30) dX7_spoil_30 lkX7_99 smX7_in rfl (by decide) (by decide) (Nat.le_of_ble_eq_true rfl) (g_X7_in hN2 hN8 hp0 hp64 wh45 a3 x57) (fun rv h59 qh59 => ?_)
    obtain ⟨rfl, x60, rfl, lx60, ux60, Gx60, Zx60⟩ := qh59
    show TT _ _ _ _ _ _ _ _ [.inl x60] _
    refine tw_if (tgt := 38) (pc := 33) dX7_spoil_33 (by decide) (fun (c63 : x60.toInt ≠ 0) => ?_) (fun (c63 : ¬ (x60.toInt ≠ 0)) => ?_)
    · skip
      obtain ⟨b61, b62⟩ := Gx60 (by omega)
      refine tt_aload_n (pc := 38) dX7_spoil_38 (.tail _ (.head _)) ?_
      refine tw_getr (pc := 39) dX7_spoil_39 flX7_53 wh45 ta0 (by decide) rfl (fun f64 q65 ef64 gf64 tq65 => ?_)
      refine tw_bipush (pc := 42) dX7_spoil_42 (by decide) (fun x66 ex66 => ?_)
      refine tt_iload (pc := 44) dX7_spoil_44 (.head _) ?_
      refine tw_imul (c := 16) (pc := 46) dX7_spoil_46 (by omega) (by omega) (fun x67 ex67 => ?_)
      refine tt_iload_n (pc := 47) dX7_spoil_47 (.tail _ (.tail _ (.tail _ (.tail _ (.head _))))) ?_
      refine tw_iadd (pc := 48) dX7_spoil_48 (by omega) (fun x68 ex68 => ?_)
      refine tw_iconst (pc := 49) dX7_spoil_49 (by decide) (fun x69 ex69 => ?_)
      refine tw_zst (P := PMko) (pc := 50) dX7_spoil_50 wh45 tq65 rfl (by omega) (by omega) (by omega) (by omega) (by decide) (fun f70 h71 eh71 gh71 kh71 wh71 fh71 => ?_)
      have hfh71 := hfh45.tr fh71
      refine tw_iconst (pc := 51) dX7_spoil_51 (by decide) (fun x72 ex72 => ?_)
      refine tt_stop ?_
      rw [hQ]
      exact Or.inr (Or.inl ⟨x72, dX7_spoil_52, rfl, Or.inr ⟨rfl, bool01 (by omega) (by omega)⟩, wh71, hfh71, x72, rfl, by omega, by omega⟩)
    · skip
      refine tw_iconst (pc := 36) dX7_spoil_36 (by decide) (fun x73 ex73 => ?_)
      refine tt_stop ?_
      rw [hQ]
      exact Or.inr (Or.inl ⟨x73, dX7_spoil_37, rfl, Or.inr ⟨rfl, bool01 (by omega) (by omega)⟩, wh45, hfh45, x73, rfl, by omega, by omega⟩)
  · skip
    refine tw_iconst (pc := 13) dX7_spoil_13 (by decide) (fun x74 ex74 => ?_)
    refine tt_stop ?_
    rw [hQ]
    exact Or.inr (Or.inl ⟨x74, dX7_spoil_14, rfl, Or.inr ⟨rfl, bool01 (by omega) (by omega)⟩, wh45, hfh45, x74, rfl, by omega, by omega⟩)
