abbrev mX6_packet : tM := (RX6, cX6_packet, 4, 0, 0, false)
set_option maxHeartbeats 4000000 in
theorem g_X6_packet {l : Launch} {D : va_G} {N : Nat} {pk : Int} {τ : List Nat} (hN2 : 2 ≤ N) (hN8 : N ≤ 8) (hp0 : 0 ≤ pk) (hp64 : pk ≤ 64) {h : List tC} (hw : WT N pk τ h) (a0 : Nat) (ta0 : τ[a0]? = some 6) (a1 : Int32) (a2 : Int32) : TMc l D yX6_packet cX6_packet 4 (some .int) 0 0 0 0 [.inr (some a0), .inl a1, .inl a2] h (fun rv h' => h = h' ∧ ∃ x : Int32, rv = some (.inl x) ∧ -2147483648 ≤ x.toInt ∧ x.toInt ≤ 2147483647) := by
  refine tmc_of false rfl (by decide) (Nat.le_of_ble_eq_true rfl) ?_
  suffices HQ : ∀ Q0, Q0 = tRt cX6_packet (some .int) (fun rv h' => h = h' ∧ ∃ x : Int32, rv = some (.inl x) ∧ -2147483648 ≤ x.toInt ∧ x.toInt ≤ 2147483647) → TT l D mX6_packet Q0 0 0 0 [(0, .inr (some a0)), (1, .inl a1), (2, .inl a2)] [] h from HQ _ rfl
  intro Q0 hQ
  have B12 : TT l D mX6_packet Q0 0 0 12 [] [] h := by
    refine tw_iconst (pc := 12) dX6_packet_12 (by decide) (fun x21 ex21 => ?_)
    refine tt_stop ?_
    rw [hQ]
    exact Or.inr (Or.inl ⟨x21, dX6_packet_13, rfl, Or.inl rfl, rfl, x21, rfl, by omega, by omega⟩)
  have ba1 := i_ty a1
  have ba2 := i_ty a2
  refine tt_iload_n (pc := 0) dX6_packet_0 (.tail _ (.head _)) ?_
  refine tw_if (tgt := 12) (pc := 1) dX6_packet_1 (by decide) (fun (c22 : a1.toInt < 0) => ?_) (fun (c22 : ¬ (a1.toInt < 0)) => ?_)
  · skip
    refine tt_loc [] (fun _ z => absurd z List.not_mem_nil) ?_
    exact B12 
  · skip
    refine tt_iload_n (pc := 4) dX6_packet_4 (.tail _ (.head _)) ?_
    refine tt_aload_n (pc := 5) dX6_packet_5 (.head _) ?_
    refine tw_geti (pc := 6) dX6_packet_6 flX6_25 hw ta0 (by decide) rfl (fun f23 x24 ef23 gf23 lx24 ux24 => ?_)
    refine tw_icmp (tgt := 14) (pc := 9) dX6_packet_9 (by decide) (fun (c25 : a1.toInt < x24.toInt) => ?_) (fun (c25 : ¬ (a1.toInt < x24.toInt)) => ?_)
    · skip
      refine tt_aload_n (pc := 14) dX6_packet_14 (.head _) ?_
      refine tw_getr (pc := 15) dX6_packet_15 flX6_21 hw ta0 (by decide) rfl (fun f26 q27 ef26 gf26 tq27 => ?_)
      refine tt_iload_n (pc := 18) dX6_packet_18 (.tail _ (.head _)) ?_
      refine tw_aldp (pc := 19) dX6_packet_19 hw tq27 (by omega) (by omega) (by omega) (fun f28 q29 ef28 gf28 tq29 => ?_)
      refine tt_astore_n (pc := 20) dX6_packet_20 (by decide) ?_
      show TT _ _ _ _ _ _ _ [(3, .inr (some q29)), (0, .inr (some a0)), (1, .inl a1), (2, .inl a2)] _ _
      refine tt_iload_n (pc := 21) dX6_packet_21 (.tail _ (.tail _ (.tail _ (.head _)))) ?_
      by_cases s30 : a2.toInt = 0
      · refine tw_tableK (c := 0) (off := 34) (tgt := 56) (pc := 22) dX6_packet_22 (by decide) s30 (by decide) (by decide) (by decide) (by decide) ?_
        refine tt_aload_n (pc := 56) dX6_packet_56 (.head _) ?_
        refine tw_geti (pc := 57) dX6_packet_57 flX6_155 hw tq29 (by decide) rfl (fun f31 x32 ef31 gf31 lx32 ux32 => ?_)
        refine tt_stop ?_
        rw [hQ]
        exact Or.inr (Or.inl ⟨x32, dX6_packet_60, rfl, Or.inl rfl, rfl, x32, rfl, by omega, by omega⟩)
      by_cases s33 : a2.toInt = 1
      · refine tw_tableK (c := 1) (off := 39) (tgt := 61) (pc := 22) dX6_packet_22 (by decide) s33 (by decide) (by decide) (by decide) (by decide) ?_
        refine tt_aload_n (pc := 61) dX6_packet_61 (.head _) ?_
        refine tw_geti (pc := 62) dX6_packet_62 flX6_158 hw tq29 (by decide) rfl (fun f34 x35 ef34 gf34 lx35 ux35 => ?_)
        refine tt_stop ?_
        rw [hQ]
        exact Or.inr (Or.inl ⟨x35, dX6_packet_65, rfl, Or.inl rfl, rfl, x35, rfl, by omega, by omega⟩)
      by_cases s36 : a2.toInt = 2
      · refine tw_tableK (c := 2) (off := 44) (tgt := 66) (pc := 22) dX6_packet_22 (by decide) s36 (by decide) (by decide) (by decide) (by decide) ?_
        refine tt_aload_n (pc := 66) dX6_packet_66 (.head _) ?_
        refine tw_geti (pc := 67) dX6_packet_67 flX6_161 hw tq29 (by decide) rfl (fun f37 x38 ef37 gf37 lx38 ux38 => ?_)
        refine tt_stop ?_
        rw [hQ]
        exact Or.inr (Or.inl ⟨x38, dX6_packet_70, rfl, Or.inl rfl, rfl, x38, rfl, by omega, by omega⟩)
      by_cases s39 : a2.toInt = 3
      · refine tw_tableK (c := 3) (off := 49) (tgt := 71) (pc := 22) dX6_packet_22 (by decide) s39 (by decide) (by decide) (by decide) (by decide) ?_
        refine tt_aload_n (pc := 71) dX6_packet_71 (.head _) ?_
        refine tw_geti (pc := 72) dX6_packet_72 flX6_164 hw tq29 (by decide) rfl (fun f40 x41 ef40 gf40 lx41 ux41 => ?_)
        refine tt_stop ?_
        rw [hQ]
        exact Or.inr (Or.inl ⟨x41, dX6_packet_75, rfl, Or.inl rfl, rfl, x41, rfl, by omega, by omega⟩)
      by_cases s42 : a2.toInt = 4
      · refine tw_tableK (c := 4) (off := 54) (tgt := 76) (pc := 22) dX6_packet_22 (by decide) s42 (by decide) (by decide) (by decide) (by decide) ?_
        refine tt_aload_n (pc := 76) dX6_packet_76 (.head _) ?_
        refine tw_geti (pc := 77) dX6_packet_77 flX6_167 hw tq29 (by decide) rfl (fun f43 x44 ef43 gf43 lx44 ux44 => ?_)
        refine tt_stop ?_
        rw [hQ]
        exact Or.inr (Or.inl ⟨x44, dX6_packet_80, rfl, Or.inl rfl, rfl, x44, rfl, by omega, by omega⟩)
      refine tw_tableD (tgt := 81) (pc := 22) dX6_packet_22 (by decide) (by omega) (by decide) ?_
      refine tw_iconst (pc := 81) dX6_packet_81 (by decide) (fun x45 ex45 => ?_)
      refine tt_stop ?_
      rw [hQ]
      exact Or.inr (Or.inl ⟨x45, dX6_packet_82, rfl, Or.inl rfl, rfl, x45, rfl, by omega, by omega⟩)
    · skip
      refine tt_loc [] (fun _ z => absurd z List.not_mem_nil) ?_
      exact B12 
abbrev mX6_queue : tM := (RX6, cX6_queue, 6, 1, 21, false)
set_option maxHeartbeats 4000000 in
theorem g_X6_queue {l : Launch} {D : va_G} {N : Nat} {pk : Int} {τ : List Nat} (hN2 : 2 ≤ N) (hN8 : N ≤ 8) (hp0 : 0 ≤ pk) (hp64 : pk ≤ 64) {h : List tC} (hw : WT N pk τ h) (a0 : Nat) (ta0 : τ[a0]? = some 6) (a1 : Int32) (a2 : Int32) (a3 : Int32) : TMc l D yX6_queue cX6_queue 6 (some .int) 1 21 0 0 [.inr (some a0), .inl a1, .inl a2, .inl a3] h (fun rv h' => h = h' ∧ ∃ x : Int32, rv = some (.inl x) ∧ -2147483648 ≤ x.toInt ∧ x.toInt ≤ 2147483647) := by
  refine tmc_of false rfl (by decide) (Nat.le_of_ble_eq_true rfl) ?_
  suffices HQ : ∀ Q0, Q0 = tRt cX6_queue (some .int) (fun rv h' => h = h' ∧ ∃ x : Int32, rv = some (.inl x) ∧ -2147483648 ≤ x.toInt ∧ x.toInt ≤ 2147483647) → TT l D mX6_queue Q0 0 0 0 [(0, .inr (some a0)), (1, .inl a1), (2, .inl a2), (3, .inl a3)] [] h from HQ _ rfl
  intro Q0 hQ
  have B14 : TT l D mX6_queue Q0 0 0 14 [] [] h := by
    refine tw_iconst (pc := 14) dX6_queue_14 (by decide) (fun x38 ex38 => ?_)
    refine tt_stop ?_
    rw [hQ]
    exact Or.inr (Or.inl ⟨x38, dX6_queue_15, rfl, Or.inl rfl, rfl, x38, rfl, by omega, by omega⟩)
  have ba1 := i_ty a1
  have ba2 := i_ty a2
  have ba3 := i_ty a3
  refine tt_iload_n (pc := 0) dX6_queue_0 (.tail _ (.head _)) ?_
  refine tt_callS (kc := 0) (ks := 0) (mc := 0) (ms := 0) (as := [.inl a1]) (st := []) (pc := 1) dX6_queue_1 lkX6_58 smX6_isLink rfl (by decide) (by decide) (Nat.le_of_ble_eq_true rfl) (g_X6_isLink hN2 hN8 hp0 hp64 hw a1) (fun rv h39 qh39 => ?_)
  obtain ⟨rfl, x40, rfl, lx40, ux40, Gx40, Zx40⟩ := qh39
  show TT _ _ _ _ _ _ _ _ [.inl x40] _
  refine tw_if (tgt := 14) (pc := 4) dX6_queue_4 (by decide) (fun (c43 : x40.toInt = 0) => ?_) (fun (c43 : ¬ (x40.toInt = 0)) => ?_)
  · skip
    refine tt_loc [] (fun _ z => absurd z List.not_mem_nil) ?_
    exact B14 
  · obtain ⟨b41, b42⟩ := Gx40 (by omega)
    refine tt_iload_n (pc := 7) dX6_queue_7 (.tail _ (.tail _ (.head _))) ?_
    refine tt_callS (kc := 0) (ks := 0) (mc := 0) (ms := 0) (as := [.inl a2]) (st := []) (pc := 8) dX6_queue_8 lkX6_117 smX6_isEnd rfl (by decide) (by decide) (Nat.le_of_ble_eq_true rfl) (g_X6_isEnd hN2 hN8 hp0 hp64 hw a2) (fun rv h44 qh44 => ?_)
    obtain ⟨rfl, x45, rfl, lx45, ux45, Gx45, Zx45⟩ := qh44
    show TT _ _ _ _ _ _ _ _ [.inl x45] _
    refine tw_if (tgt := 16) (pc := 11) dX6_queue_11 (by decide) (fun (c48 : x45.toInt ≠ 0) => ?_) (fun (c48 : ¬ (x45.toInt ≠ 0)) => ?_)
    · obtain ⟨b46, b47⟩ := Gx45 (by omega)
      refine tt_aload_n (pc := 16) dX6_queue_16 (.head _) ?_
      refine tw_getr (pc := 17) dX6_queue_17 flX6_11 hw ta0 (by decide) rfl (fun f49 q50 ef49 gf49 tq50 => ?_)
      refine tt_iload_n (pc := 20) dX6_queue_20 (.tail _ (.head _)) ?_
      refine tw_ald (pc := 21) dX6_queue_21 hw tq50 rfl (by decide) (by omega) (by omega) (fun f51 q52 ef51 gf51 tq52 => ?_)
      refine tw_getr (pc := 22) dX6_queue_22 flX6_131 hw tq52 (by decide) rfl (fun f53 q54 ef53 gf53 tq54 => ?_)
      refine tt_iload_n (pc := 25) dX6_queue_25 (.tail _ (.tail _ (.head _))) ?_
      refine tw_ald (pc := 26) dX6_queue_26 hw tq54 rfl (by decide) (by omega) (by omega) (fun f55 q56 ef55 gf55 tq56 => ?_)
      refine tt_astore (pc := 27) dX6_queue_27 (by decide) ?_
      show TT _ _ _ _ _ _ _ [(4, .inr (some q56)), (0, .inr (some a0)), (1, .inl a1), (2, .inl a2), (3, .inl a3)] _ _
      refine tt_iload_n (pc := 29) dX6_queue_29 (.tail _ (.tail _ (.tail _ (.tail _ (.head _))))) ?_
      refine tw_if (tgt := 39) (pc := 30) dX6_queue_30 (by decide) (fun (c57 : a3.toInt ≠ 0) => ?_) (fun (c57 : ¬ (a3.toInt ≠ 0)) => ?_)
      · skip
        refine tt_aload (pc := 39) dX6_queue_39 (.head _) ?_
        refine tw_iconst (pc := 41) dX6_queue_41 (by decide) (fun x58 ex58 => ?_)
        refine tw_callV (kc := 0) (ks := 0) (mc := 0) (ms := 0) (as := [.inl x58]) (st := []) (pc := 42) hw tq56 (by decide) dX6_queue_42 lkX6_135 imX2_at seX2_at rfl rfl (by decide) (by decide) (Nat.le_of_ble_eq_true rfl) (g_X2_at hN2 hN8 hp0 hp64 hw q56 tq56 x58) (fun rv h59 qh59 => ?_)
        obtain ⟨rfl, o60, rfl, to60⟩ := qh59
        show TT _ _ _ _ _ _ _ _ [.inr o60] _
        refine tt_astore (pc := 45) dX6_queue_45 (by decide) ?_
        show TT _ _ _ _ _ _ _ [(5, .inr o60), (4, .inr (some q56)), (0, .inr (some a0)), (1, .inl a1), (2, .inl a2), (3, .inl a3)] _ _
        refine tt_aload (pc := 47) dX6_queue_47 (.head _) ?_
        refine tt_ifnonnull (tgt := 54) (pc := 49) dX6_queue_49 (by decide) (fun q62 z61 => ?_) (fun z61 => ?_)
        · have tq62 := to60 q62 z61
          subst z61
          refine tt_iload_n (pc := 54) dX6_queue_54 (.tail _ (.tail _ (.tail _ (.tail _ (.tail _ (.head _)))))) ?_
          by_cases s63 : a3.toInt = 1
          · refine tw_tableK (c := 1) (off := 29) (tgt := 84) (pc := 55) dX6_queue_55 (by decide) s63 (by decide) (by decide) (by decide) (by decide) ?_
            refine tt_aload (pc := 84) dX6_queue_84 (.head _) ?_
            refine tw_callV (kc := 0) (ks := 0) (mc := 0) (ms := 0) (as := []) (st := []) (pc := 86) hw tq62 (by decide) dX6_queue_86 lkX6_173 imX1_shownKind seX1_shownKind rfl rfl (by decide) (by decide) (Nat.le_of_ble_eq_true rfl) (g_X1_shownKind hN2 hN8 hp0 hp64 hw q62 tq62) (fun rv h64 qh64 => ?_)
            obtain ⟨rfl, x65, rfl, lx65, ux65⟩ := qh64
            show TT _ _ _ _ _ _ _ _ [.inl x65] _
            refine tt_stop ?_
            rw [hQ]
            exact Or.inr (Or.inl ⟨x65, dX6_queue_89, rfl, Or.inl rfl, rfl, x65, rfl, by omega, by omega⟩)
          by_cases s66 : a3.toInt = 2
          · refine tw_tableK (c := 2) (off := 35) (tgt := 90) (pc := 55) dX6_queue_55 (by decide) s66 (by decide) (by decide) (by decide) (by decide) ?_
            refine tt_aload (pc := 90) dX6_queue_90 (.head _) ?_
            refine tw_geti (pc := 92) dX6_queue_92 flX6_176 hw tq62 (by decide) rfl (fun f67 x68 ef67 gf67 lx68 ux68 => ?_)
            refine tt_stop ?_
            rw [hQ]
            exact Or.inr (Or.inl ⟨x68, dX6_queue_95, rfl, Or.inl rfl, rfl, x68, rfl, by omega, by omega⟩)
          by_cases s69 : a3.toInt = 3
          · refine tw_tableK (c := 3) (off := 41) (tgt := 96) (pc := 55) dX6_queue_55 (by decide) s69 (by decide) (by decide) (by decide) (by decide) ?_
            refine tt_aload (pc := 96) dX6_queue_96 (.head _) ?_
            refine tw_geti (pc := 98) dX6_queue_98 flX6_179 hw tq62 (by decide) rfl (fun f70 x71 ef70 gf70 lx71 ux71 => ?_)
            refine tt_stop ?_
            rw [hQ]
            exact Or.inr (Or.inl ⟨x71, dX6_queue_101, rfl, Or.inl rfl, rfl, x71, rfl, by omega, by omega⟩)
          by_cases s72 : a3.toInt = 4
          · refine tw_tableK (c := 4) (off := 47) (tgt := 102) (pc := 55) dX6_queue_55 (by decide) s72 (by decide) (by decide) (by decide) (by decide) ?_
            refine tt_aload (pc := 102) dX6_queue_102 (.head _) ?_
            refine tw_geti (pc := 104) dX6_queue_104 flX6_182 hw tq62 (by decide) rfl (fun f73 x74 ef73 gf73 lx74 ux74 => ?_)
            refine tt_stop ?_
            rw [hQ]
            exact Or.inr (Or.inl ⟨x74, dX6_queue_107, rfl, Or.inl rfl, rfl, x74, rfl, by omega, by omega⟩)
          refine tw_tableD (tgt := 108) (pc := 55) dX6_queue_55 (by decide) (by omega) (by decide) ?_
          refine tw_iconst (pc := 108) dX6_queue_108 (by decide) (fun x75 ex75 => ?_)
          refine tt_stop ?_
          rw [hQ]
          exact Or.inr (Or.inl ⟨x75, dX6_queue_109, rfl, Or.inl rfl, rfl, x75, rfl, by omega, by omega⟩)
        · subst z61
          refine tw_iconst (pc := 52) dX6_queue_52 (by decide) (fun x76 ex76 => ?_)
          refine tt_stop ?_
          rw [hQ]
          exact Or.inr (Or.inl ⟨x76, dX6_queue_53, rfl, Or.inl rfl, rfl, x76, rfl, by omega, by omega⟩)
      · skip
        refine tt_aload (pc := 33) dX6_queue_33 (.head _) ?_
        refine tw_geti (pc := 35) dX6_queue_35 flX6_170 hw tq56 (by decide) rfl (fun f77 x78 ef77 gf77 lx78 ux78 => ?_)
        refine tt_stop ?_
        rw [hQ]
        exact Or.inr (Or.inl ⟨x78, dX6_queue_38, rfl, Or.inl rfl, rfl, x78, rfl, by omega, by omega⟩)
    · skip
      refine tt_loc [] (fun _ z => absurd z List.not_mem_nil) ?_
      exact B14 
abbrev mX6_knows : tM := (RX6, cX6_knows, 4, 1, 21, false)
set_option maxHeartbeats 4000000 in
theorem g_X6_knows {l : Launch} {D : va_G} {N : Nat} {pk : Int} {τ : List Nat} (hN2 : 2 ≤ N) (hN8 : N ≤ 8) (hp0 : 0 ≤ pk) (hp64 : pk ≤ 64) {h : List tC} (hw : WT N pk τ h) (a0 : Nat) (ta0 : τ[a0]? = some 6) (a1 : Int32) (a2 : Int32) : TMc l D yX6_knows cX6_knows 4 (some .int) 1 21 0 0 [.inr (some a0), .inl a1, .inl a2] h (fun rv h' => h = h' ∧ ∃ x : Int32, rv = some (.inl x) ∧ -2147483648 ≤ x.toInt ∧ x.toInt ≤ 2147483647) := by
  refine tmc_of false rfl (by decide) (Nat.le_of_ble_eq_true rfl) ?_
  suffices HQ : ∀ Q0, Q0 = tRt cX6_knows (some .int) (fun rv h' => h = h' ∧ ∃ x : Int32, rv = some (.inl x) ∧ -2147483648 ≤ x.toInt ∧ x.toInt ≤ 2147483647) → TT l D mX6_knows Q0 0 0 0 [(0, .inr (some a0)), (1, .inl a1), (2, .inl a2)] [] h from HQ _ rfl
  intro Q0 hQ
  have B16 : TT l D mX6_knows Q0 0 0 16 [] [] h := by
    refine tw_iconst (pc := 16) dX6_knows_16 (by decide) (fun x25 ex25 => ?_)
    refine tt_stop ?_
    rw [hQ]
    exact Or.inr (Or.inl ⟨x25, dX6_knows_17, rfl, Or.inl rfl, rfl, x25, rfl, by omega, by omega⟩)
  have ba1 := i_ty a1
  have ba2 := i_ty a2
  refine tt_aload_n (pc := 0) dX6_knows_0 (.head _) ?_
  refine tt_iload_n (pc := 1) dX6_knows_1 (.tail _ (.head _)) ?_
  refine tw_callV (kc := 0) (ks := 0) (mc := 0) (ms := 0) (as := [.inl a1]) (st := []) (pc := 2) hw ta0 (by decide) dX6_knows_2 lkX6_62 imX6_isRouter seX6_isRouter rfl rfl (by decide) (by decide) (Nat.le_of_ble_eq_true rfl) (g_X6_isRouter hN2 hN8 hp0 hp64 hw a0 ta0 a1) (fun rv h26 qh26 => ?_)
  obtain ⟨rfl, x27, rfl, lx27, ux27, Gx27, Zx27⟩ := qh26
  show TT _ _ _ _ _ _ _ _ [.inl x27] _
  refine tw_if (tgt := 16) (pc := 5) dX6_knows_5 (by decide) (fun (c30 : x27.toInt = 0) => ?_) (fun (c30 : ¬ (x27.toInt = 0)) => ?_)
  · skip
    refine tt_loc [] (fun _ z => absurd z List.not_mem_nil) ?_
    exact B16 
  · obtain ⟨b28, b29⟩ := Gx27 (by omega)
    refine tt_aload_n (pc := 8) dX6_knows_8 (.head _) ?_
    refine tt_iload_n (pc := 9) dX6_knows_9 (.tail _ (.tail _ (.head _))) ?_
    refine tw_callV (kc := 0) (ks := 0) (mc := 0) (ms := 0) (as := [.inl a2]) (st := []) (pc := 10) hw ta0 (by decide) dX6_knows_10 lkX6_62 imX6_isRouter seX6_isRouter rfl rfl (by decide) (by decide) (Nat.le_of_ble_eq_true rfl) (g_X6_isRouter hN2 hN8 hp0 hp64 hw a0 ta0 a2) (fun rv h31 qh31 => ?_)
    obtain ⟨rfl, x32, rfl, lx32, ux32, Gx32, Zx32⟩ := qh31
    show TT _ _ _ _ _ _ _ _ [.inl x32] _
    refine tw_if (tgt := 18) (pc := 13) dX6_knows_13 (by decide) (fun (c35 : x32.toInt ≠ 0) => ?_) (fun (c35 : ¬ (x32.toInt ≠ 0)) => ?_)
    · obtain ⟨b33, b34⟩ := Gx32 (by omega)
      refine tt_aload_n (pc := 18) dX6_knows_18 (.head _) ?_
      refine tw_getr (pc := 19) dX6_knows_19 flX6_50 hw ta0 (by decide) rfl (fun f36 q37 ef36 gf36 tq37 => ?_)
      refine tt_iload_n (pc := 22) dX6_knows_22 (.tail _ (.head _)) ?_
      refine tw_ald (pc := 23) dX6_knows_23 hw tq37 rfl (by decide) (by omega) (by omega) (fun f38 q39 ef38 gf38 tq39 => ?_)
      refine tw_getr (pc := 24) dX6_knows_24 flX6_185 hw tq39 (by decide) rfl (fun f40 q41 ef40 gf40 tq41 => ?_)
      refine tt_iload_n (pc := 27) dX6_knows_27 (.tail _ (.tail _ (.head _))) ?_
      refine tw_aldn (pc := 28) dX6_knows_28 hw tq41 rfl (by decide) (by omega) (by omega) (fun f42 o43 ef42 gf42 to43 => ?_)
      refine tt_astore_n (pc := 29) dX6_knows_29 (by decide) ?_
      show TT _ _ _ _ _ _ _ [(3, .inr o43), (0, .inr (some a0)), (1, .inl a1), (2, .inl a2)] _ _
      refine tt_aload_n (pc := 30) dX6_knows_30 (.head _) ?_
      refine tt_ifnonnull (tgt := 38) (pc := 31) dX6_knows_31 (by decide) (fun q45 z44 => ?_) (fun z44 => ?_)
      · have tq45 := to43 q45 z44
        subst z44
        refine tt_aload_n (pc := 38) dX6_knows_38 (.head _) ?_
        refine tw_geti (pc := 39) dX6_knows_39 flX6_189 hw tq45 (by decide) rfl (fun f46 x47 ef46 gf46 lx47 ux47 => ?_)
        refine tt_stop ?_
        rw [hQ]
        exact Or.inr (Or.inl ⟨x47, dX6_knows_42, rfl, Or.inl rfl, rfl, x47, rfl, by omega, by omega⟩)
      · subst z44
        refine tw_iconst (pc := 34) dX6_knows_34 (by decide) (fun x48 ex48 => ?_)
        refine tt_goto (tgt := 42) (pc := 35) dX6_knows_35 (by decide) ?_
        refine tt_stop ?_
        rw [hQ]
        exact Or.inr (Or.inl ⟨x48, dX6_knows_42, rfl, Or.inl rfl, rfl, x48, rfl, by omega, by omega⟩)
    · skip
      refine tt_loc [] (fun _ z => absurd z List.not_mem_nil) ?_
      exact B16 
abbrev mX6_way : tM := (RX6, cX6_way, 5, 2, 47, false)
set_option maxHeartbeats 4000000 in
theorem g_X6_way {l : Launch} {D : va_G} {N : Nat} {pk : Int} {τ : List Nat} (hN2 : 2 ≤ N) (hN8 : N ≤ 8) (hp0 : 0 ≤ pk) (hp64 : pk ≤ 64) {h : List tC} (hw : WT N pk τ h) (a0 : Nat) (ta0 : τ[a0]? = some 6) (a1 : Int32) (a2 : Int32) (a3 : Int32) : TMc l D yX6_way cX6_way 5 (some .int) 2 47 0 0 [.inr (some a0), .inl a1, .inl a2, .inl a3] h (fun rv h' => h = h' ∧ ∃ x : Int32, rv = some (.inl x) ∧ -2147483648 ≤ x.toInt ∧ x.toInt ≤ 2147483647) := by
  refine tmc_of false rfl (by decide) (Nat.le_of_ble_eq_true rfl) ?_
  suffices HQ : ∀ Q0, Q0 = tRt cX6_way (some .int) (fun rv h' => h = h' ∧ ∃ x : Int32, rv = some (.inl x) ∧ -2147483648 ≤ x.toInt ∧ x.toInt ≤ 2147483647) → TT l D mX6_way Q0 0 0 0 [(0, .inr (some a0)), (1, .inl a1), (2, .inl a2), (3, .inl a3)] [] h from HQ _ rfl
  intro Q0 hQ
  have B16 : TT l D mX6_way Q0 0 0 16 [] [] h := by
    refine tw_iconst (pc := 16) dX6_way_16 (by decide) (fun x35 ex35 => ?_)
    refine tt_stop ?_
    rw [hQ]
    exact Or.inr (Or.inl ⟨x35, dX6_way_17, rfl, Or.inl rfl, rfl, x35, rfl, by omega, by omega⟩)
  have ba1 := i_ty a1
  have ba2 := i_ty a2
  have ba3 := i_ty a3
  refine tt_aload_n (pc := 0) dX6_way_0 (.head _) ?_
  refine tt_iload_n (pc := 1) dX6_way_1 (.tail _ (.head _)) ?_
  refine tw_callV (kc := 0) (ks := 0) (mc := 0) (ms := 0) (as := [.inl a1]) (st := []) (pc := 2) hw ta0 (by decide) dX6_way_2 lkX6_62 imX6_isRouter seX6_isRouter rfl rfl (by decide) (by decide) (Nat.le_of_ble_eq_true rfl) (g_X6_isRouter hN2 hN8 hp0 hp64 hw a0 ta0 a1) (fun rv h36 qh36 => ?_)
  obtain ⟨rfl, x37, rfl, lx37, ux37, Gx37, Zx37⟩ := qh36
  show TT _ _ _ _ _ _ _ _ [.inl x37] _
  refine tw_if (tgt := 16) (pc := 5) dX6_way_5 (by decide) (fun (c40 : x37.toInt = 0) => ?_) (fun (c40 : ¬ (x37.toInt = 0)) => ?_)
  · skip
    refine tt_loc [] (fun _ z => absurd z List.not_mem_nil) ?_
    exact B16 
  · obtain ⟨b38, b39⟩ := Gx37 (by omega)
    refine tt_aload_n (pc := 8) dX6_way_8 (.head _) ?_
    refine tt_iload_n (pc := 9) dX6_way_9 (.tail _ (.tail _ (.head _))) ?_
    refine tw_callV (kc := 0) (ks := 0) (mc := 0) (ms := 0) (as := [.inl a2]) (st := []) (pc := 10) hw ta0 (by decide) dX6_way_10 lkX6_62 imX6_isRouter seX6_isRouter rfl rfl (by decide) (by decide) (Nat.le_of_ble_eq_true rfl) (g_X6_isRouter hN2 hN8 hp0 hp64 hw a0 ta0 a2) (fun rv h41 qh41 => ?_)
    obtain ⟨rfl, x42, rfl, lx42, ux42, Gx42, Zx42⟩ := qh41
    show TT _ _ _ _ _ _ _ _ [.inl x42] _
    refine tw_if (tgt := 18) (pc := 13) dX6_way_13 (by decide) (fun (c45 : x42.toInt ≠ 0) => ?_) (fun (c45 : ¬ (x42.toInt ≠ 0)) => ?_)
    · obtain ⟨b43, b44⟩ := Gx42 (by omega)
      refine tt_iload_n (pc := 18) dX6_way_18 (.tail _ (.tail _ (.tail _ (.head _)))) ?_
      refine tw_if (tgt := 51) (pc := 19) dX6_way_19 (by decide) (fun (c46 : a3.toInt ≠ 0) => ?_) (fun (c46 : ¬ (a3.toInt ≠ 0)) => ?_)
      · skip
        refine tt_iload_n (pc := 51) dX6_way_51 (.tail _ (.tail _ (.tail _ (.head _)))) ?_
        refine tw_iconst (pc := 52) dX6_way_52 (by decide) (fun x47 ex47 => ?_)
        refine tw_icmp (tgt := 70) (pc := 53) dX6_way_53 (by decide) (fun (c48 : a3.toInt ≠ x47.toInt) => ?_) (fun (c48 : ¬ (a3.toInt ≠ x47.toInt)) => ?_)
        · skip
          refine tw_iconst (pc := 70) dX6_way_70 (by decide) (fun x49 ex49 => ?_)
          refine tt_stop ?_
          rw [hQ]
          exact Or.inr (Or.inl ⟨x49, dX6_way_71, rfl, Or.inl rfl, rfl, x49, rfl, by omega, by omega⟩)
        · skip
          refine tt_aload_n (pc := 56) dX6_way_56 (.head _) ?_
          refine tt_aload_n (pc := 57) dX6_way_57 (.head _) ?_
          refine tw_getr (pc := 58) dX6_way_58 flX6_50 hw ta0 (by decide) rfl (fun f50 q51 ef50 gf50 tq51 => ?_)
          refine tt_iload_n (pc := 61) dX6_way_61 (.tail _ (.head _)) ?_
          refine tw_ald (pc := 62) dX6_way_62 hw tq51 rfl (by decide) (by omega) (by omega) (fun f52 q53 ef52 gf52 tq53 => ?_)
          refine tt_iload_n (pc := 63) dX6_way_63 (.tail _ (.tail _ (.head _))) ?_
          refine tw_callV (kc := 0) (ks := 0) (mc := 0) (ms := 0) (as := [.inr (some q53), .inl a2]) (st := []) (pc := 64) hw ta0 (by decide) dX6_way_64 lkX6_199 imX6_hop seX6_hop rfl rfl (by decide) (by decide) (Nat.le_of_ble_eq_true rfl) (g_X6_hop hN2 hN8 hp0 hp64 hw a0 ta0 q53 tq53 a2 (by omega) (by omega)) (fun rv h54 qh54 => ?_)
          obtain ⟨rfl, x55, rfl, lx55, ux55⟩ := qh54
          show TT _ _ _ _ _ _ _ _ [.inl x55] _
          refine tt_goto (tgt := 71) (pc := 67) dX6_way_67 (by decide) ?_
          refine tt_stop ?_
          rw [hQ]
          exact Or.inr (Or.inl ⟨x55, dX6_way_71, rfl, Or.inl rfl, rfl, x55, rfl, by omega, by omega⟩)
      · skip
        refine tt_aload_n (pc := 22) dX6_way_22 (.head _) ?_
        refine tw_getr (pc := 23) dX6_way_23 flX6_50 hw ta0 (by decide) rfl (fun f56 q57 ef56 gf56 tq57 => ?_)
        refine tt_iload_n (pc := 26) dX6_way_26 (.tail _ (.head _)) ?_
        refine tw_ald (pc := 27) dX6_way_27 hw tq57 rfl (by decide) (by omega) (by omega) (fun f58 q59 ef58 gf58 tq59 => ?_)
        refine tw_getr (pc := 28) dX6_way_28 flX6_194 hw tq59 (by decide) rfl (fun f60 q61 ef60 gf60 tq61 => ?_)
        refine tt_iload_n (pc := 31) dX6_way_31 (.tail _ (.head _)) ?_
        refine tw_ald (pc := 32) dX6_way_32 hw tq61 rfl (by decide) (by omega) (by omega) (fun f62 q63 ef62 gf62 tq63 => ?_)
        refine tt_iload_n (pc := 33) dX6_way_33 (.tail _ (.tail _ (.head _))) ?_
        refine tw_ild (pc := 34) dX6_way_34 hw tq63 rfl (by omega) (by omega) (fun f65 x64 ef65 gf65 lx64 ux64 => ?_)
        refine tt_istore (pc := 35) dX6_way_35 (by decide) ?_
        show TT _ _ _ _ _ _ _ [(4, .inl x64), (0, .inr (some a0)), (1, .inl a1), (2, .inl a2), (3, .inl a3)] _ _
        refine tt_iload (pc := 37) dX6_way_37 (.head _) ?_
        refine tw_ldc (n := 1000000) (pc := 39) dX6_way_39 rfl kcX6_198 (by decide) (fun x66 ex66 => ?_)
        refine tw_icmp (tgt := 49) (pc := 41) dX6_way_41 (by decide) (fun (c67 : x66.toInt ≤ x64.toInt) => ?_) (fun (c67 : ¬ (x66.toInt ≤ x64.toInt)) => ?_)
        · skip
          refine tw_iconst (pc := 49) dX6_way_49 (by decide) (fun x68 ex68 => ?_)
          refine tt_stop ?_
          rw [hQ]
          exact Or.inr (Or.inl ⟨x68, dX6_way_50, rfl, Or.inl rfl, rfl, x68, rfl, by omega, by omega⟩)
        · skip
          refine tt_iload (pc := 44) dX6_way_44 (.head _) ?_
          refine tt_goto (tgt := 50) (pc := 46) dX6_way_46 (by decide) ?_
          refine tt_stop ?_
          rw [hQ]
          exact Or.inr (Or.inl ⟨x64, dX6_way_50, rfl, Or.inl rfl, rfl, x64, rfl, by omega, by omega⟩)
    · skip
      refine tt_loc [] (fun _ z => absurd z List.not_mem_nil) ?_
      exact B16 
abbrev mX6_label : tM := (RX6, cX6_label, 6, 4, 95, false)
set_option maxHeartbeats 4000000 in
theorem g_X6_label {l : Launch} {D : va_G} {N : Nat} {pk : Int} {τ : List Nat} (hN2 : 2 ≤ N) (hN8 : N ≤ 8) (hp0 : 0 ≤ pk) (hp64 : pk ≤ 64) {h : List tC} (hw : WT N pk τ h) (a0 : Nat) (ta0 : τ[a0]? = some 6) (a1 : Int32) (a2 : Int32) (a3 : Int32) (a4 : Int32) : TMc l D yX6_label cX6_label 6 (some .int) 4 95 0 0 [.inr (some a0), .inl a1, .inl a2, .inl a3, .inl a4] h (fun rv h' => h = h' ∧ ∃ x : Int32, rv = some (.inl x) ∧ -2147483648 ≤ x.toInt ∧ x.toInt ≤ 2147483647) := by
  refine tmc_of false rfl (by decide) (Nat.le_of_ble_eq_true rfl) ?_
  suffices HQ : ∀ Q0, Q0 = tRt cX6_label (some .int) (fun rv h' => h = h' ∧ ∃ x : Int32, rv = some (.inl x) ∧ -2147483648 ≤ x.toInt ∧ x.toInt ≤ 2147483647) → TT l D mX6_label Q0 0 0 0 [(0, .inr (some a0)), (1, .inl a1), (2, .inl a2), (3, .inl a3), (4, .inl a4)] [] h from HQ _ rfl
  intro Q0 hQ
  have B15 : TT l D mX6_label Q0 0 0 15 [] [] h := by
    refine tw_iconst (pc := 15) dX6_label_15 (by decide) (fun x35 ex35 => ?_)
    refine tt_stop ?_
    rw [hQ]
    exact Or.inr (Or.inl ⟨x35, dX6_label_16, rfl, Or.inl rfl, rfl, x35, rfl, by omega, by omega⟩)
  have ba1 := i_ty a1
  have ba2 := i_ty a2
  have ba3 := i_ty a3
  have ba4 := i_ty a4
  refine tt_aload_n (pc := 0) dX6_label_0 (.head _) ?_
  refine tt_iload_n (pc := 1) dX6_label_1 (.tail _ (.head _)) ?_
  refine tw_callV (kc := 0) (ks := 0) (mc := 0) (ms := 0) (as := [.inl a1]) (st := []) (pc := 2) hw ta0 (by decide) dX6_label_2 lkX6_62 imX6_isRouter seX6_isRouter rfl rfl (by decide) (by decide) (Nat.le_of_ble_eq_true rfl) (g_X6_isRouter hN2 hN8 hp0 hp64 hw a0 ta0 a1) (fun rv h36 qh36 => ?_)
  obtain ⟨rfl, x37, rfl, lx37, ux37, Gx37, Zx37⟩ := qh36
  show TT _ _ _ _ _ _ _ _ [.inl x37] _
  refine tw_if (tgt := 15) (pc := 5) dX6_label_5 (by decide) (fun (c40 : x37.toInt = 0) => ?_) (fun (c40 : ¬ (x37.toInt = 0)) => ?_)
  · skip
    refine tt_loc [] (fun _ z => absurd z List.not_mem_nil) ?_
    exact B15 
  · obtain ⟨b38, b39⟩ := Gx37 (by omega)
    refine tt_iload_n (pc := 8) dX6_label_8 (.tail _ (.tail _ (.head _))) ?_
    refine tt_callS (kc := 0) (ks := 0) (mc := 0) (ms := 0) (as := [.inl a2]) (st := []) (pc := 9) dX6_label_9 lkX6_103 smX6_isPrefix rfl (by decide) (by decide) (Nat.le_of_ble_eq_true rfl) (g_X6_isPrefix hN2 hN8 hp0 hp64 hw a2) (fun rv h41 qh41 => ?_)
    obtain ⟨rfl, x42, rfl, lx42, ux42, Gx42, Zx42⟩ := qh41
    show TT _ _ _ _ _ _ _ _ [.inl x42] _
    refine tw_if (tgt := 17) (pc := 12) dX6_label_12 (by decide) (fun (c45 : x42.toInt ≠ 0) => ?_) (fun (c45 : ¬ (x42.toInt ≠ 0)) => ?_)
    · obtain ⟨b43, b44⟩ := Gx42 (by omega)
      refine tt_aload_n (pc := 17) dX6_label_17 (.head _) ?_
      refine tw_getr (pc := 18) dX6_label_18 flX6_50 hw ta0 (by decide) rfl (fun f46 q47 ef46 gf46 tq47 => ?_)
      refine tt_iload_n (pc := 21) dX6_label_21 (.tail _ (.head _)) ?_
      refine tw_ald (pc := 22) dX6_label_22 hw tq47 rfl (by decide) (by omega) (by omega) (fun f48 q49 ef48 gf48 tq49 => ?_)
      refine tt_astore (pc := 23) dX6_label_23 (by decide) ?_
      show TT _ _ _ _ _ _ _ [(5, .inr (some q49)), (0, .inr (some a0)), (1, .inl a1), (2, .inl a2), (3, .inl a3), (4, .inl a4)] _ _
      refine tt_iload (pc := 25) dX6_label_25 (.tail _ (.tail _ (.tail _ (.tail _ (.tail _ (.head _)))))) ?_
      by_cases s50 : a4.toInt = 0
      · refine tw_tableK (c := 0) (off := 33) (tgt := 60) (pc := 27) dX6_label_27 (by decide) s50 (by decide) (by decide) (by decide) (by decide) ?_
        refine tt_aload (pc := 60) dX6_label_60 (.head _) ?_
        refine tt_iload_n (pc := 62) dX6_label_62 (.tail _ (.tail _ (.tail _ (.head _)))) ?_
        refine tw_callV (kc := 0) (ks := 0) (mc := 0) (ms := 0) (as := [.inl a2]) (st := []) (pc := 63) hw tq49 (by decide) dX6_label_63 lkX6_203 imX4_egress seX4_egress rfl rfl (by decide) (by decide) (Nat.le_of_ble_eq_true rfl) (g_X4_egress hN2 hN8 hp0 hp64 hw q49 tq49 a2) (fun rv h51 qh51 => ?_)
        obtain ⟨rfl, x52, rfl, lx52, ux52⟩ := qh51
        show TT _ _ _ _ _ _ _ _ [.inl x52] _
        refine tt_stop ?_
        rw [hQ]
        exact Or.inr (Or.inl ⟨x52, dX6_label_66, rfl, Or.inl rfl, rfl, x52, rfl, by omega, by omega⟩)
      by_cases s53 : a4.toInt = 1
      · refine tw_tableK (c := 1) (off := 40) (tgt := 67) (pc := 27) dX6_label_27 (by decide) s53 (by decide) (by decide) (by decide) (by decide) ?_
        refine tt_aload (pc := 67) dX6_label_67 (.head _) ?_
        refine tw_getr (pc := 69) dX6_label_69 flX6_207 hw tq49 (by decide) rfl (fun f54 q55 ef54 gf54 tq55 => ?_)
        refine tt_iload_n (pc := 72) dX6_label_72 (.tail _ (.tail _ (.tail _ (.head _)))) ?_
        refine tw_ild (pc := 73) dX6_label_73 hw tq55 rfl (by omega) (by omega) (fun f57 x56 ef57 gf57 lx56 ux56 => ?_)
        refine tt_stop ?_
        rw [hQ]
        exact Or.inr (Or.inl ⟨x56, dX6_label_74, rfl, Or.inl rfl, rfl, x56, rfl, by omega, by omega⟩)
      by_cases s58 : a4.toInt = 2
      · refine tw_tableK (c := 2) (off := 48) (tgt := 75) (pc := 27) dX6_label_27 (by decide) s58 (by decide) (by decide) (by decide) (by decide) ?_
        refine tt_aload (pc := 75) dX6_label_75 (.head _) ?_
        refine tw_getr (pc := 77) dX6_label_77 flX6_210 hw tq49 (by decide) rfl (fun f59 q60 ef59 gf59 tq60 => ?_)
        refine tt_iload_n (pc := 80) dX6_label_80 (.tail _ (.tail _ (.tail _ (.head _)))) ?_
        refine tw_ild (pc := 81) dX6_label_81 hw tq60 rfl (by omega) (by omega) (fun f62 x61 ef62 gf62 lx61 ux61 => ?_)
        refine tt_stop ?_
        rw [hQ]
        exact Or.inr (Or.inl ⟨x61, dX6_label_82, rfl, Or.inl rfl, rfl, x61, rfl, by omega, by omega⟩)
      by_cases s63 : a4.toInt = 3
      · refine tw_tableK (c := 3) (off := 56) (tgt := 83) (pc := 27) dX6_label_27 (by decide) s63 (by decide) (by decide) (by decide) (by decide) ?_
        refine tt_aload_n (pc := 83) dX6_label_83 (.tail _ (.head _)) ?_
        refine tt_aload (pc := 84) dX6_label_84 (.head _) ?_
        refine tt_iload_n (pc := 86) dX6_label_86 (.tail _ (.tail _ (.tail _ (.head _)))) ?_
        refine tt_iload_n (pc := 87) dX6_label_87 (.tail _ (.tail _ (.tail _ (.tail _ (.head _))))) ?_
        refine tt_aload (pc := 88) dX6_label_88 (.head _) ?_
        refine tw_getr (pc := 90) dX6_label_90 flX6_213 hw tq49 (by decide) rfl (fun f64 q65 ef64 gf64 tq65 => ?_)
        refine tw_callV (kc := 0) (ks := 0) (mc := 0) (ms := 0) (as := [.inr (some q49), .inl a2, .inl a3, .inr (some q65)]) (st := []) (pc := 93) hw ta0 (by decide) dX6_label_93 lkX6_216 imX6_ofMapping seX6_ofMapping rfl rfl (by decide) (by decide) (Nat.le_of_ble_eq_true rfl) (g_X6_ofMapping hN2 hN8 hp0 hp64 hw a0 ta0 q49 tq49 a2 (by omega) (by omega) a3 q65 tq65) (fun rv h66 qh66 => ?_)
        obtain ⟨rfl, x67, rfl, lx67, ux67⟩ := qh66
        show TT _ _ _ _ _ _ _ _ [.inl x67] _
        refine tt_stop ?_
        rw [hQ]
        exact Or.inr (Or.inl ⟨x67, dX6_label_96, rfl, Or.inl rfl, rfl, x67, rfl, by omega, by omega⟩)
      by_cases s68 : a4.toInt = 4
      · refine tw_tableK (c := 4) (off := 70) (tgt := 97) (pc := 27) dX6_label_27 (by decide) s68 (by decide) (by decide) (by decide) (by decide) ?_
        refine tt_aload_n (pc := 97) dX6_label_97 (.tail _ (.head _)) ?_
        refine tt_aload (pc := 98) dX6_label_98 (.head _) ?_
        refine tt_iload_n (pc := 100) dX6_label_100 (.tail _ (.tail _ (.tail _ (.head _)))) ?_
        refine tt_iload_n (pc := 101) dX6_label_101 (.tail _ (.tail _ (.tail _ (.tail _ (.head _))))) ?_
        refine tt_aload (pc := 102) dX6_label_102 (.head _) ?_
        refine tw_getr (pc := 104) dX6_label_104 flX6_220 hw tq49 (by decide) rfl (fun f69 q70 ef69 gf69 tq70 => ?_)
        refine tw_callV (kc := 0) (ks := 0) (mc := 0) (ms := 0) (as := [.inr (some q49), .inl a2, .inl a3, .inr (some q70)]) (st := []) (pc := 107) hw ta0 (by decide) dX6_label_107 lkX6_216 imX6_ofMapping seX6_ofMapping rfl rfl (by decide) (by decide) (Nat.le_of_ble_eq_true rfl) (g_X6_ofMapping hN2 hN8 hp0 hp64 hw a0 ta0 q49 tq49 a2 (by omega) (by omega) a3 q70 tq70) (fun rv h71 qh71 => ?_)
        obtain ⟨rfl, x72, rfl, lx72, ux72⟩ := qh71
        show TT _ _ _ _ _ _ _ _ [.inl x72] _
        refine tt_stop ?_
        rw [hQ]
        exact Or.inr (Or.inl ⟨x72, dX6_label_110, rfl, Or.inl rfl, rfl, x72, rfl, by omega, by omega⟩)
      refine tw_tableD (tgt := 111) (pc := 27) dX6_label_27 (by decide) (by omega) (by decide) ?_
      refine tw_iconst (pc := 111) dX6_label_111 (by decide) (fun x73 ex73 => ?_)
      refine tt_stop ?_
      rw [hQ]
      exact Or.inr (Or.inl ⟨x73, dX6_label_112, rfl, Or.inl rfl, rfl, x73, rfl, by omega, by omega⟩)
    · skip
      refine tt_loc [] (fun _ z => absurd z List.not_mem_nil) ?_
      exact B15 
abbrev mX6_count : tM := (RX6, cX6_count, 3, 1, 22, false)
set_option maxHeartbeats 4000000 in
theorem g_X6_count {l : Launch} {D : va_G} {N : Nat} {pk : Int} {τ : List Nat} (hN2 : 2 ≤ N) (hN8 : N ≤ 8) (hp0 : 0 ≤ pk) (hp64 : pk ≤ 64) {h : List tC} (hw : WT N pk τ h) (a0 : Nat) (ta0 : τ[a0]? = some 6) (a1 : Int32) (a2 : Int32) : TMc l D yX6_count cX6_count 3 (some .int) 1 22 0 0 [.inr (some a0), .inl a1, .inl a2] h (fun rv h' => h = h' ∧ ∃ x : Int32, rv = some (.inl x) ∧ -2147483648 ≤ x.toInt ∧ x.toInt ≤ 2147483647) := by
  refine tmc_of false rfl (by decide) (Nat.le_of_ble_eq_true rfl) ?_
  suffices HQ : ∀ Q0, Q0 = tRt cX6_count (some .int) (fun rv h' => h = h' ∧ ∃ x : Int32, rv = some (.inl x) ∧ -2147483648 ≤ x.toInt ∧ x.toInt ≤ 2147483647) → TT l D mX6_count Q0 0 0 0 [(0, .inr (some a0)), (1, .inl a1), (2, .inl a2)] [] h from HQ _ rfl
  intro Q0 hQ
  have ba1 := i_ty a1
  have ba2 := i_ty a2
  refine tt_iload_n (pc := 0) dX6_count_0 (.tail _ (.tail _ (.head _))) ?_
  by_cases s20 : a2.toInt = 0
  · refine tw_tableK (c := 0) (off := 31) (tgt := 32) (pc := 1) dX6_count_1 (by decide) s20 (by decide) (by decide) (by decide) (by decide) ?_
    refine tt_aload_n (pc := 32) dX6_count_32 (.head _) ?_
    refine tt_iload_n (pc := 33) dX6_count_33 (.tail _ (.head _)) ?_
    refine tw_callV (kc := 0) (ks := 0) (mc := 0) (ms := 0) (as := [.inl a1]) (st := []) (pc := 34) hw ta0 (by decide) dX6_count_34 lkX6_62 imX6_isRouter seX6_isRouter rfl rfl (by decide) (by decide) (Nat.le_of_ble_eq_true rfl) (g_X6_isRouter hN2 hN8 hp0 hp64 hw a0 ta0 a1) (fun rv h21 qh21 => ?_)
    obtain ⟨rfl, x22, rfl, lx22, ux22, Gx22, Zx22⟩ := qh21
    show TT _ _ _ _ _ _ _ _ [.inl x22] _
    refine tw_if (tgt := 52) (pc := 37) dX6_count_37 (by decide) (fun (c25 : x22.toInt = 0) => ?_) (fun (c25 : ¬ (x22.toInt = 0)) => ?_)
    · skip
      refine tw_iconst (pc := 52) dX6_count_52 (by decide) (fun x26 ex26 => ?_)
      refine tt_stop ?_
      rw [hQ]
      exact Or.inr (Or.inl ⟨x26, dX6_count_53, rfl, Or.inl rfl, rfl, x26, rfl, by omega, by omega⟩)
    · obtain ⟨b23, b24⟩ := Gx22 (by omega)
      refine tt_aload_n (pc := 40) dX6_count_40 (.head _) ?_
      refine tw_getr (pc := 41) dX6_count_41 flX6_50 hw ta0 (by decide) rfl (fun f27 q28 ef27 gf27 tq28 => ?_)
      refine tt_iload_n (pc := 44) dX6_count_44 (.tail _ (.head _)) ?_
      refine tw_ald (pc := 45) dX6_count_45 hw tq28 rfl (by decide) (by omega) (by omega) (fun f29 q30 ef29 gf29 tq30 => ?_)
      refine tw_callV (kc := 0) (ks := 0) (mc := 0) (ms := 0) (as := []) (st := []) (pc := 46) hw tq30 (by decide) dX6_count_46 lkX6_223 imX4_labelsInUse seX4_labelsInUse rfl rfl (by decide) (by decide) (Nat.le_of_ble_eq_true rfl) (g_X4_labelsInUse hN2 hN8 hp0 hp64 hw q30 tq30) (fun rv h31 qh31 => ?_)
      obtain ⟨rfl, x32, rfl, lx32, ux32⟩ := qh31
      show TT _ _ _ _ _ _ _ _ [.inl x32] _
      refine tt_goto (tgt := 53) (pc := 49) dX6_count_49 (by decide) ?_
      refine tt_stop ?_
      rw [hQ]
      exact Or.inr (Or.inl ⟨x32, dX6_count_53, rfl, Or.inl rfl, rfl, x32, rfl, by omega, by omega⟩)
  by_cases s33 : a2.toInt = 1
  · refine tw_tableK (c := 1) (off := 53) (tgt := 54) (pc := 1) dX6_count_1 (by decide) s33 (by decide) (by decide) (by decide) (by decide) ?_
    refine tt_aload_n (pc := 54) dX6_count_54 (.head _) ?_
    refine tw_geti (pc := 55) dX6_count_55 flX6_29 hw ta0 (by decide) rfl (fun f34 x35 ef34 gf34 lx35 ux35 => ?_)
    refine tt_stop ?_
    rw [hQ]
    exact Or.inr (Or.inl ⟨x35, dX6_count_58, rfl, Or.inl rfl, rfl, x35, rfl, by omega, by omega⟩)
  by_cases s36 : a2.toInt = 2
  · refine tw_tableK (c := 2) (off := 58) (tgt := 59) (pc := 1) dX6_count_1 (by decide) s36 (by decide) (by decide) (by decide) (by decide) ?_
    refine tt_aload_n (pc := 59) dX6_count_59 (.head _) ?_
    refine tw_callV (kc := 0) (ks := 0) (mc := 0) (ms := 0) (as := []) (st := []) (pc := 60) hw ta0 (by decide) dX6_count_60 lkX6_226 imX6_packetsUnderWay seX6_packetsUnderWay rfl rfl (by decide) (by decide) (Nat.le_of_ble_eq_true rfl) (g_X6_packetsUnderWay hN2 hN8 hp0 hp64 hw a0 ta0) (fun rv h37 qh37 => ?_)
    obtain ⟨rfl, x38, rfl, lx38, ux38⟩ := qh37
    show TT _ _ _ _ _ _ _ _ [.inl x38] _
    refine tt_stop ?_
    rw [hQ]
    exact Or.inr (Or.inl ⟨x38, dX6_count_63, rfl, Or.inl rfl, rfl, x38, rfl, by omega, by omega⟩)
  by_cases s39 : a2.toInt = 3
  · refine tw_tableK (c := 3) (off := 63) (tgt := 64) (pc := 1) dX6_count_1 (by decide) s39 (by decide) (by decide) (by decide) (by decide) ?_
    refine tt_aload_n (pc := 64) dX6_count_64 (.head _) ?_
    refine tw_callV (kc := 0) (ks := 0) (mc := 0) (ms := 0) (as := []) (st := []) (pc := 65) hw ta0 (by decide) dX6_count_65 lkX6_229 imX6_linksUp seX6_linksUp rfl rfl (by decide) (by decide) (Nat.le_of_ble_eq_true rfl) (g_X6_linksUp hN2 hN8 hp0 hp64 hw a0 ta0) (fun rv h40 qh40 => ?_)
    obtain ⟨rfl, x41, rfl, lx41, ux41⟩ := qh40
    show TT _ _ _ _ _ _ _ _ [.inl x41] _
    refine tt_stop ?_
    rw [hQ]
    exact Or.inr (Or.inl ⟨x41, dX6_count_68, rfl, Or.inl rfl, rfl, x41, rfl, by omega, by omega⟩)
  refine tw_tableD (tgt := 69) (pc := 1) dX6_count_1 (by decide) (by omega) (by decide) ?_
  refine tw_iconst (pc := 69) dX6_count_69 (by decide) (fun x42 ex42 => ?_)
  refine tt_stop ?_
  rw [hQ]
  exact Or.inr (Or.inl ⟨x42, dX6_count_70, rfl, Or.inl rfl, rfl, x42, rfl, by omega, by omega⟩)
