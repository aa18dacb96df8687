abbrev mX1_asNote : tM := (RX1, cX1_asNote, 2, 1, 24, false)
set_option maxHeartbeats 4000000 in
theorem g_X1_asNote {l : Launch} {D : va_G} {N : Nat} {pk : Int} {τ : List Nat} (hN2 : 2 ≤ N) (hN8 : N ≤ 8) (hp0 : 0 ≤ pk) (hp64 : pk ≤ 64) {h : List tC} (hw : WT N pk τ h) (a0 : Nat) (ta0 : τ[a0]? = some 1) (a1 : Nat) (ta1 : τ[a1]? = some 5) : TMc l D yX1_asNote cX1_asNote 2 (some (.object "LabelNet$Message")) 1 24 0 0 [.inr (some a0), .inr (some a1)] h (fun rv h' => WT N pk τ h' ∧ Fr PX τ h h' ∧ ∃ q : Nat, rv = some (.inr (some q)) ∧ τ[q]? = some 1) := by
  refine tmc_of false rfl (by decide) (Nat.le_of_ble_eq_true rfl) ?_
  suffices HQ : ∀ Q0, Q0 = tRt cX1_asNote (some (.object "LabelNet$Message")) (fun rv h' => WT N pk τ h' ∧ Fr PX τ h h' ∧ ∃ q : Nat, rv = some (.inr (some q)) ∧ τ[q]? = some 1) → TT l D mX1_asNote Q0 0 0 0 [(0, .inr (some a0)), (1, .inr (some a1))] [] h from HQ _ rfl
  intro Q0 hQ
  have hf : Fr PX τ h h := Fr.rf
  refine tt_aload_n (pc := 0) dX1_asNote_0 (.head _) ?_
  refine tw_iconst (pc := 1) dX1_asNote_1 (by decide) (fun x11 ex11 => ?_)
  refine tt_aload_n (pc := 2) dX1_asNote_2 (.tail _ (.head _)) ?_
  refine tw_geti (pc := 3) dX1_asNote_3 flX1_28 hw ta1 (by decide) rfl (fun f12 x13 ef12 gf12 lx13 ux13 => ?_)
  refine tt_aload_n (pc := 6) dX1_asNote_6 (.tail _ (.head _)) ?_
  refine tw_geti (pc := 7) dX1_asNote_7 flX1_33 hw ta1 (by decide) rfl (fun f14 x15 ef14 gf14 lx15 ux15 => ?_)
  refine tw_iconst (pc := 10) dX1_asNote_10 (by decide) (fun x16 ex16 => ?_)
  refine tw_callV (kc := 0) (ks := 0) (mc := 0) (ms := 0) (as := [.inl x11, .inl x13, .inl x15, .inl x16]) (st := []) (pc := 11) hw ta0 (by decide) dX1_asNote_11 lkX1_36 imX1_as seX1_as rfl rfl (by decide) (by decide) (Nat.le_of_ble_eq_true rfl) (g_X1_asA hN2 hN8 hp0 hp64 hw a0 ta0 x11 (by omega) (by omega) x13 (by omega) (by omega) x15 x16) (fun rv h17 qh17 => ?_)
  obtain ⟨wh17, fh17, q18, rfl, tq18⟩ := qh17
  have hfh17 := hf.tr fh17
  show TT _ _ _ _ _ _ _ _ [.inr (some q18)] _
  refine tt_pop (pc := 14) dX1_asNote_14 ?_
  refine tt_aload_n (pc := 15) dX1_asNote_15 (.head _) ?_
  refine tt_aload_n (pc := 16) dX1_asNote_16 (.tail _ (.head _)) ?_
  refine tw_put (P := PX) (pc := 17) dX1_asNote_17 flX1_24 wh17 ta0 (by decide) rfl ta1 rfl (by decide) (by decide) (fun f19 h20 eh20 gh20 kh20 wh20 fh20 => ?_)
  have hfh20 := hfh17.tr fh20
  refine tt_aload_n (pc := 20) dX1_asNote_20 (.head _) ?_
  refine tt_stop ?_
  rw [hQ]
  exact Or.inr (Or.inr ⟨_, _, dX1_asNote_21, rfl, rfl, wh20, hfh20, a0, rfl, ta0⟩)
abbrev mX6_packetsUnderWay : tM := (RX6, cX6_packetsUnderWay, 3, 0, 0, false)
set_option maxHeartbeats 4000000 in
theorem g_X6_packetsUnderWay {l : Launch} {D : va_G} {N : Nat} {pk : Int} {τ : List Nat} (hN2 : 2 ≤ N) (hN8 : N ≤ 8) (hp0 : 0 ≤ pk) (hp64 : pk ≤ 64) {h : List tC} (hw : WT N pk τ h) (a0 : Nat) (ta0 : τ[a0]? = some 6) : TMc l D yX6_packetsUnderWay cX6_packetsUnderWay 3 (some .int) 0 0 0 0 [.inr (some a0)] h (fun rv h' => h = h' ∧ ∃ x : Int32, rv = some (.inl x) ∧ -2147483648 ≤ x.toInt ∧ x.toInt ≤ 2147483647) := by
  refine tmc_of false rfl (by decide) (Nat.le_of_ble_eq_true rfl) ?_
  suffices HQ : ∀ Q0, Q0 = tRt cX6_packetsUnderWay (some .int) (fun rv h' => h = h' ∧ ∃ x : Int32, rv = some (.inl x) ∧ -2147483648 ≤ x.toInt ∧ x.toInt ≤ 2147483647) → TT l D mX6_packetsUnderWay Q0 0 0 0 [(0, .inr (some a0))] [] h from HQ _ rfl
  intro Q0 hQ
  have B4 : ∀ (n4 : Nat) (x448 : Int32) (x449 : Int32) (lx449 : 0 ≤ x449.toInt) (ux449 : x449.toInt ≤ 64), 64 - x449.toInt < n4 → TT l D mX6_packetsUnderWay Q0 0 0 4 [(0, .inr (some a0)), (1, .inl x448), (2, .inl x449)] [] h := by
    intro n4
    induction n4 with
    | zero =>
      intro x448 x449 lx449 ux449 hn4
      exfalso
      omega
    | succ n4 ih4 =>
      intro x448 x449 lx449 ux449 hn4
      have bx448 := i_ty x448
      have B27 : ∀ (x450 : Int32) (x451 : Int32) (lx451 : 0 ≤ x451.toInt) (ux451 : x451.toInt ≤ pk - 1) (hn4 : 64 - x451.toInt < ((n4 + 1 : Nat) : Int)), TT l D mX6_packetsUnderWay Q0 0 0 27 [(0, .inr (some a0)), (1, .inl x450), (2, .inl x451)] [] h := by
        intro x450 x451 lx451 ux451 hn4
        have bx450 := i_ty x450
        refine tw_iinc (pc := 27) dX6_packetsUnderWay_27 (.tail _ (.tail _ (.head _))) (by decide) (by decide) (by omega) (fun x452 ex452 => ?_)
        show TT _ _ _ _ _ _ _ [(2, .inl x452), (0, .inr (some a0)), (1, .inl x450)] _ _
        refine tt_goto (tgt := 4) (pc := 30) dX6_packetsUnderWay_30 (by decide) ?_
        refine tt_loc [(0, .inr (some a0)), (1, .inl x450), (2, .inl x452)] (List.forall_mem_cons.mpr ⟨(.tail _ (.head _)), List.forall_mem_cons.mpr ⟨(.tail _ (.tail _ (.head _))), List.forall_mem_cons.mpr ⟨(.head _), fun _ z => absurd z List.not_mem_nil⟩⟩⟩) ?_
        exact ih4 x450 x452 (by omega) (by omega) (by omega)
      refine tt_iload_n (pc := 4) dX6_packetsUnderWay_4 (.tail _ (.tail _ (.head _))) ?_
      refine tt_aload_n (pc := 5) dX6_packetsUnderWay_5 (.head _) ?_
      refine tw_geti (pc := 6) dX6_packetsUnderWay_6 flX6_25 hw ta0 (by decide) rfl (fun f453 x454 ef453 gf453 lx454 ux454 => ?_)
      refine tw_icmp (tgt := 33) (pc := 9) dX6_packetsUnderWay_9 (by decide) (fun (c455 : x454.toInt ≤ x449.toInt) => ?_) (fun (c455 : ¬ (x454.toInt ≤ x449.toInt)) => ?_)
      · skip
        refine tt_iload_n (pc := 33) dX6_packetsUnderWay_33 (.tail _ (.head _)) ?_
        refine tt_stop ?_
        rw [hQ]
        exact Or.inr (Or.inl ⟨x448, dX6_packetsUnderWay_34, rfl, Or.inl rfl, rfl, x448, rfl, by omega, by omega⟩)
      · skip
        refine tt_aload_n (pc := 12) dX6_packetsUnderWay_12 (.head _) ?_
        refine tw_getr (pc := 13) dX6_packetsUnderWay_13 flX6_21 hw ta0 (by decide) rfl (fun f456 q457 ef456 gf456 tq457 => ?_)
        refine tt_iload_n (pc := 16) dX6_packetsUnderWay_16 (.tail _ (.tail _ (.head _))) ?_
        refine tw_aldp (pc := 17) dX6_packetsUnderWay_17 hw tq457 (by omega) (by omega) (by omega) (fun f458 q459 ef458 gf458 tq459 => ?_)
        refine tw_geti (pc := 18) dX6_packetsUnderWay_18 flX6_155 hw tq459 (by decide) rfl (fun f460 x461 ef460 gf460 lx461 ux461 => ?_)
        refine tw_if (tgt := 27) (pc := 21) dX6_packetsUnderWay_21 (by decide) (fun (c462 : x461.toInt ≠ 0) => ?_) (fun (c462 : ¬ (x461.toInt ≠ 0)) => ?_)
        · skip
          refine tt_loc [(0, .inr (some a0)), (1, .inl x448), (2, .inl x449)] (List.forall_mem_cons.mpr ⟨(.head _), List.forall_mem_cons.mpr ⟨(.tail _ (.head _)), List.forall_mem_cons.mpr ⟨(.tail _ (.tail _ (.head _))), fun _ z => absurd z List.not_mem_nil⟩⟩⟩) ?_
          exact B27 x448 x449 (by omega) (by omega) (by omega)
        · skip
          refine tw_iincA (pc := 24) dX6_packetsUnderWay_24 (.tail _ (.head _)) (by decide) (fun x463 => ?_)
          show TT _ _ _ _ _ _ _ [(1, .inl x463), (0, .inr (some a0)), (2, .inl x449)] _ _
          have bx463 := i_ty x463
          refine tt_loc [(0, .inr (some a0)), (1, .inl x463), (2, .inl x449)] (List.forall_mem_cons.mpr ⟨(.tail _ (.head _)), List.forall_mem_cons.mpr ⟨(.head _), List.forall_mem_cons.mpr ⟨(.tail _ (.tail _ (.head _))), fun _ z => absurd z List.not_mem_nil⟩⟩⟩) ?_
          exact B27 x463 x449 (by omega) (by omega) (by omega)
  refine tw_iconst (pc := 0) dX6_packetsUnderWay_0 (by decide) (fun x464 ex464 => ?_)
  refine tt_istore_n (pc := 1) dX6_packetsUnderWay_1 (by decide) ?_
  show TT _ _ _ _ _ _ _ [(1, .inl x464), (0, .inr (some a0))] _ _
  refine tw_iconst (pc := 2) dX6_packetsUnderWay_2 (by decide) (fun x465 ex465 => ?_)
  refine tt_istore_n (pc := 3) dX6_packetsUnderWay_3 (by decide) ?_
  show TT _ _ _ _ _ _ _ [(2, .inl x465), (1, .inl x464), (0, .inr (some a0))] _ _
  refine tt_loc [(0, .inr (some a0)), (1, .inl x464), (2, .inl x465)] (List.forall_mem_cons.mpr ⟨(.tail _ (.tail _ (.head _))), List.forall_mem_cons.mpr ⟨(.tail _ (.head _)), List.forall_mem_cons.mpr ⟨(.head _), fun _ z => absurd z List.not_mem_nil⟩⟩⟩) ?_
  exact B4 65 x464 x465 (by omega) (by omega) (by omega)
abbrev mX6_linksUp : tM := (RX6, cX6_linksUp, 3, 0, 0, false)
set_option maxHeartbeats 4000000 in
theorem g_X6_linksUp {l : Launch} {D : va_G} {N : Nat} {pk : Int} {τ : List Nat} (hN2 : 2 ≤ N) (hN8 : N ≤ 8) (hp0 : 0 ≤ pk) (hp64 : pk ≤ 64) {h : List tC} (hw : WT N pk τ h) (a0 : Nat) (ta0 : τ[a0]? = some 6) : TMc l D yX6_linksUp cX6_linksUp 3 (some .int) 0 0 0 0 [.inr (some a0)] h (fun rv h' => h = h' ∧ ∃ x : Int32, rv = some (.inl x) ∧ -2147483648 ≤ x.toInt ∧ x.toInt ≤ 2147483647) := by
  refine tmc_of false rfl (by decide) (Nat.le_of_ble_eq_true rfl) ?_
  suffices HQ : ∀ Q0, Q0 = tRt cX6_linksUp (some .int) (fun rv h' => h = h' ∧ ∃ x : Int32, rv = some (.inl x) ∧ -2147483648 ≤ x.toInt ∧ x.toInt ≤ 2147483647) → TT l D mX6_linksUp Q0 0 0 0 [(0, .inr (some a0))] [] h from HQ _ rfl
  intro Q0 hQ
  have B4 : ∀ (n4 : Nat) (x420 : Int32) (x421 : Int32) (lx421 : 0 ≤ x421.toInt) (ux421 : x421.toInt ≤ 12), 12 - x421.toInt < n4 → TT l D mX6_linksUp Q0 0 0 4 [(0, .inr (some a0)), (1, .inl x420), (2, .inl x421)] [] h := by
    intro n4
    induction n4 with
    | zero =>
      intro x420 x421 lx421 ux421 hn4
      exfalso
      omega
    | succ n4 ih4 =>
      intro x420 x421 lx421 ux421 hn4
      have bx420 := i_ty x420
      have B25 : ∀ (x422 : Int32) (x423 : Int32) (lx423 : 0 ≤ x423.toInt) (ux423 : x423.toInt ≤ 11) (hn4 : 12 - x423.toInt < ((n4 + 1 : Nat) : Int)), TT l D mX6_linksUp Q0 0 0 25 [(0, .inr (some a0)), (1, .inl x422), (2, .inl x423)] [] h := by
        intro x422 x423 lx423 ux423 hn4
        have bx422 := i_ty x422
        refine tw_iinc (pc := 25) dX6_linksUp_25 (.tail _ (.tail _ (.head _))) (by decide) (by decide) (by omega) (fun x424 ex424 => ?_)
        show TT _ _ _ _ _ _ _ [(2, .inl x424), (0, .inr (some a0)), (1, .inl x422)] _ _
        refine tt_goto (tgt := 4) (pc := 28) dX6_linksUp_28 (by decide) ?_
        refine tt_loc [(0, .inr (some a0)), (1, .inl x422), (2, .inl x424)] (List.forall_mem_cons.mpr ⟨(.tail _ (.head _)), List.forall_mem_cons.mpr ⟨(.tail _ (.tail _ (.head _))), List.forall_mem_cons.mpr ⟨(.head _), fun _ z => absurd z List.not_mem_nil⟩⟩⟩) ?_
        exact ih4 x422 x424 (by omega) (by omega) (by omega)
      refine tt_iload_n (pc := 4) dX6_linksUp_4 (.tail _ (.tail _ (.head _))) ?_
      refine tw_bipush (pc := 5) dX6_linksUp_5 (by decide) (fun x425 ex425 => ?_)
      refine tw_icmp (tgt := 31) (pc := 7) dX6_linksUp_7 (by decide) (fun (c426 : x425.toInt ≤ x421.toInt) => ?_) (fun (c426 : ¬ (x425.toInt ≤ x421.toInt)) => ?_)
      · skip
        refine tt_iload_n (pc := 31) dX6_linksUp_31 (.tail _ (.head _)) ?_
        refine tt_stop ?_
        rw [hQ]
        exact Or.inr (Or.inl ⟨x420, dX6_linksUp_32, rfl, Or.inl rfl, rfl, x420, rfl, by omega, by omega⟩)
      · skip
        refine tt_aload_n (pc := 10) dX6_linksUp_10 (.head _) ?_
        refine tw_getr (pc := 11) dX6_linksUp_11 flX6_11 hw ta0 (by decide) rfl (fun f427 q428 ef427 gf427 tq428 => ?_)
        refine tt_iload_n (pc := 14) dX6_linksUp_14 (.tail _ (.tail _ (.head _))) ?_
        refine tw_ald (pc := 15) dX6_linksUp_15 hw tq428 rfl (by decide) (by omega) (by omega) (fun f429 q430 ef429 gf429 tq430 => ?_)
        refine tw_geti (pc := 16) dX6_linksUp_16 flX6_92 hw tq430 (by decide) rfl (fun f431 x432 ef431 gf431 lx432 ux432 => ?_)
        refine tw_if (tgt := 25) (pc := 19) dX6_linksUp_19 (by decide) (fun (c433 : x432.toInt = 0) => ?_) (fun (c433 : ¬ (x432.toInt = 0)) => ?_)
        · skip
          refine tt_loc [(0, .inr (some a0)), (1, .inl x420), (2, .inl x421)] (List.forall_mem_cons.mpr ⟨(.head _), List.forall_mem_cons.mpr ⟨(.tail _ (.head _)), List.forall_mem_cons.mpr ⟨(.tail _ (.tail _ (.head _))), fun _ z => absurd z List.not_mem_nil⟩⟩⟩) ?_
          exact B25 x420 x421 (by omega) (by omega) (by omega)
        · skip
          refine tw_iincA (pc := 22) dX6_linksUp_22 (.tail _ (.head _)) (by decide) (fun x434 => ?_)
          show TT _ _ _ _ _ _ _ [(1, .inl x434), (0, .inr (some a0)), (2, .inl x421)] _ _
          have bx434 := i_ty x434
          refine tt_loc [(0, .inr (some a0)), (1, .inl x434), (2, .inl x421)] (List.forall_mem_cons.mpr ⟨(.tail _ (.head _)), List.forall_mem_cons.mpr ⟨(.head _), List.forall_mem_cons.mpr ⟨(.tail _ (.tail _ (.head _))), fun _ z => absurd z List.not_mem_nil⟩⟩⟩) ?_
          exact B25 x434 x421 (by omega) (by omega) (by omega)
  refine tw_iconst (pc := 0) dX6_linksUp_0 (by decide) (fun x435 ex435 => ?_)
  refine tt_istore_n (pc := 1) dX6_linksUp_1 (by decide) ?_
  show TT _ _ _ _ _ _ _ [(1, .inl x435), (0, .inr (some a0))] _ _
  refine tw_iconst (pc := 2) dX6_linksUp_2 (by decide) (fun x436 ex436 => ?_)
  refine tt_istore_n (pc := 3) dX6_linksUp_3 (by decide) ?_
  show TT _ _ _ _ _ _ _ [(2, .inl x436), (1, .inl x435), (0, .inr (some a0))] _ _
  refine tt_loc [(0, .inr (some a0)), (1, .inl x435), (2, .inl x436)] (List.forall_mem_cons.mpr ⟨(.tail _ (.tail _ (.head _))), List.forall_mem_cons.mpr ⟨(.tail _ (.head _)), List.forall_mem_cons.mpr ⟨(.head _), fun _ z => absurd z List.not_mem_nil⟩⟩⟩) ?_
  exact B4 13 x435 x436 (by omega) (by omega) (by omega)
abbrev mX6_cut : tM := (RX6, cX6_cut, 4, 1, 21, false)
set_option maxHeartbeats 4000000 in
theorem g_X6_cut {l : Launch} {D : va_G} {N : Nat} {pk : Int} {τ : List Nat} (hN2 : 2 ≤ N) (hN8 : N ≤ 8) (hp0 : 0 ≤ pk) (hp64 : pk ≤ 64) {h : List tC} (hw : WT N pk τ h) (a0 : Nat) (ta0 : τ[a0]? = some 6) (a1 : Nat) (ta1 : τ[a1]? = some 2) : TMc l D yX6_cut cX6_cut 4 none 1 21 0 0 [.inr (some a0), .inr (some a1)] h (fun rv h' => WT N pk τ h' ∧ Fr PX τ h h' ∧ rv = none) := by
  refine tmc_of false rfl (by decide) (Nat.le_of_ble_eq_true rfl) ?_
  suffices HQ : ∀ Q0, Q0 = tRt cX6_cut none (fun rv h' => WT N pk τ h' ∧ Fr PX τ h h' ∧ rv = none) → TT l D mX6_cut Q0 0 0 0 [(0, .inr (some a0)), (1, .inr (some a1))] [] h from HQ _ rfl
  intro Q0 hQ
  have hf : Fr PX τ h h := Fr.rf
  have B2 : ∀ (n2 : Nat) (hb : List tC) (hwb : WT N pk τ hb) (hfb : Fr PX τ h hb) (x286 : Int32) (lx286 : 0 ≤ x286.toInt) (ux286 : x286.toInt ≤ 16), 16 - x286.toInt < n2 → TT l D mX6_cut Q0 0 0 2 [(0, .inr (some a0)), (1, .inr (some a1)), (2, .inl x286)] [] hb := by
    intro n2
    induction n2 with
    | zero =>
      intro hb hwb hfb x286 lx286 ux286 hn2
      exfalso
      omega
    | succ n2 ih2 =>
      intro hb hwb hfb x286 lx286 ux286 hn2
      have B42 : ∀ (hb : List tC) (hwb : WT N pk τ hb) (hfb : Fr PX τ h hb) (x287 : Int32) (lx287 : 0 ≤ x287.toInt) (ux287 : x287.toInt ≤ 15) (hn2 : 16 - x287.toInt < ((n2 + 1 : Nat) : Int)), TT l D mX6_cut Q0 0 0 42 [(0, .inr (some a0)), (1, .inr (some a1)), (2, .inl x287)] [] hb := by
        intro hb hwb hfb x287 lx287 ux287 hn2
        refine tw_iinc (pc := 42) dX6_cut_42 (.tail _ (.tail _ (.head _))) (by decide) (by decide) (by omega) (fun x288 ex288 => ?_)
        show TT _ _ _ _ _ _ _ [(2, .inl x288), (0, .inr (some a0)), (1, .inr (some a1))] _ _
        refine tt_goto (tgt := 2) (pc := 45) dX6_cut_45 (by decide) ?_
        refine tt_loc [(0, .inr (some a0)), (1, .inr (some a1)), (2, .inl x288)] (List.forall_mem_cons.mpr ⟨(.tail _ (.head _)), List.forall_mem_cons.mpr ⟨(.tail _ (.tail _ (.head _))), List.forall_mem_cons.mpr ⟨(.head _), fun _ z => absurd z List.not_mem_nil⟩⟩⟩) ?_
        exact ih2 hb hwb hfb x288 (by omega) (by omega) (by omega)
      refine tt_iload_n (pc := 2) dX6_cut_2 (.tail _ (.tail _ (.head _))) ?_
      refine tt_aload_n (pc := 3) dX6_cut_3 (.tail _ (.head _)) ?_
      refine tw_geti (pc := 4) dX6_cut_4 flX6_170 hwb ta1 (by decide) rfl (fun f289 x290 ef289 gf289 lx290 ux290 => ?_)
      refine tw_icmp (tgt := 48) (pc := 7) dX6_cut_7 (by decide) (fun (c291 : x290.toInt ≤ x286.toInt) => ?_) (fun (c291 : ¬ (x290.toInt ≤ x286.toInt)) => ?_)
      · skip
        refine tt_aload_n (pc := 48) dX6_cut_48 (.tail _ (.head _)) ?_
        refine tw_iconst (pc := 49) dX6_cut_49 (by decide) (fun x292 ex292 => ?_)
        refine tw_put (P := PX) (pc := 50) dX6_cut_50 flX6_170 hwb ta1 (by decide) rfl ⟨by omega, by omega⟩ rfl (by decide) (by decide) (fun f293 h294 eh294 gh294 kh294 wh294 fh294 => ?_)
        have hfh294 := hfb.tr fh294
        refine tt_stop ?_
        rw [hQ]
        exact Or.inl ⟨dX6_cut_53, rfl, rfl, wh294, hfh294, rfl⟩
      · skip
        refine tt_aload_n (pc := 10) dX6_cut_10 (.tail _ (.head _)) ?_
        refine tt_iload_n (pc := 11) dX6_cut_11 (.tail _ (.tail _ (.head _))) ?_
        refine tw_callV (kc := 0) (ks := 0) (mc := 0) (ms := 0) (as := [.inl x286]) (st := []) (pc := 12) hwb ta1 (by decide) dX6_cut_12 lkX6_135 imX2_at seX2_at rfl rfl (by decide) (by decide) (Nat.le_of_ble_eq_true rfl) (g_X2_at hN2 hN8 hp0 hp64 hwb a1 ta1 x286) (fun rv h295 qh295 => ?_)
        obtain ⟨rfl, o296, rfl, to296⟩ := qh295
        show TT _ _ _ _ _ _ _ _ [.inr o296] _
        refine tt_astore_n (pc := 15) dX6_cut_15 (by decide) ?_
        show TT _ _ _ _ _ _ _ [(3, .inr o296), (0, .inr (some a0)), (1, .inr (some a1)), (2, .inl x286)] _ _
        refine tt_aload_n (pc := 16) dX6_cut_16 (.head _) ?_
        refine tt_ifnull (tgt := 42) (pc := 17) dX6_cut_17 (by decide) (fun z297 => ?_) (fun q298 z297 => ?_)
        · subst z297
          refine tt_loc [(0, .inr (some a0)), (1, .inr (some a1)), (2, .inl x286)] (List.forall_mem_cons.mpr ⟨(.tail _ (.head _)), List.forall_mem_cons.mpr ⟨(.tail _ (.tail _ (.head _))), List.forall_mem_cons.mpr ⟨(.tail _ (.tail _ (.tail _ (.head _)))), fun _ z => absurd z List.not_mem_nil⟩⟩⟩) ?_
          exact B42 hb hwb hfb x286 (by omega) (by omega) (by omega)
        · have tq298 := to296 q298 z297
          subst z297
          refine tt_aload_n (pc := 20) dX6_cut_20 (.head _) ?_
          refine tw_geti (pc := 21) dX6_cut_21 flX6_246 hwb tq298 (by decide) rfl (fun f299 x300 ef299 gf299 lx300 ux300 => ?_)
          refine tw_iconst (pc := 24) dX6_cut_24 (by decide) (fun x301 ex301 => ?_)
          refine tw_icmp (tgt := 42) (pc := 25) dX6_cut_25 (by decide) (fun (c302 : x300.toInt ≠ x301.toInt) => ?_) (fun (c302 : ¬ (x300.toInt ≠ x301.toInt)) => ?_)
          · skip
            refine tt_loc [(0, .inr (some a0)), (1, .inr (some a1)), (2, .inl x286)] (List.forall_mem_cons.mpr ⟨(.tail _ (.head _)), List.forall_mem_cons.mpr ⟨(.tail _ (.tail _ (.head _))), List.forall_mem_cons.mpr ⟨(.tail _ (.tail _ (.tail _ (.head _)))), fun _ z => absurd z List.not_mem_nil⟩⟩⟩) ?_
            exact B42 hb hwb hfb x286 (by omega) (by omega) (by omega)
          · skip
            refine tt_aload_n (pc := 28) dX6_cut_28 (.tail _ (.head _)) ?_
            refine tw_getr (pc := 29) dX6_cut_29 flX6_21 hwb ta0 (by decide) rfl (fun f303 q304 ef303 gf303 tq304 => ?_)
            refine tt_aload_n (pc := 32) dX6_cut_32 (.head _) ?_
            refine tw_subjp (pc := 33) dX6_cut_33 flX6_176 hwb tq298 (fun fs8 x8 e8 g8 => by have kq : 4 ≤ x8.toInt ∧ x8.toInt ≤ 4 := (fun fs9 x9 e9 g9 => by rw [ef299] at e9; cases e9; rw [gf299] at g9; cases g9; exact ⟨by omega, by omega⟩) fs8 x8 e8 g8; omega) (fun f305 x306 ef305 gf305 lx306 ux306 => ?_)
            refine tw_aldp (pc := 36) dX6_cut_36 hwb tq304 (by omega) (by omega) (by omega) (fun f307 q308 ef307 gf307 tq308 => ?_)
            refine tw_bipush (pc := 37) dX6_cut_37 (by decide) (fun x309 ex309 => ?_)
            refine tw_put (P := PX) (pc := 39) dX6_cut_39 flX6_155 hwb tq308 (by decide) rfl ⟨by omega, by omega⟩ rfl (by decide) (by decide) (fun f310 h311 eh311 gh311 kh311 wh311 fh311 => ?_)
            have hfh311 := hfb.tr fh311
            refine tt_loc [(0, .inr (some a0)), (1, .inr (some a1)), (2, .inl x286)] (List.forall_mem_cons.mpr ⟨(.tail _ (.head _)), List.forall_mem_cons.mpr ⟨(.tail _ (.tail _ (.head _))), List.forall_mem_cons.mpr ⟨(.tail _ (.tail _ (.tail _ (.head _)))), fun _ z => absurd z List.not_mem_nil⟩⟩⟩) ?_
            exact B42 h311 wh311 hfh311 x286 (by omega) (by omega) (by omega)
  refine tw_iconst (pc := 0) dX6_cut_0 (by decide) (fun x312 ex312 => ?_)
  refine tt_istore_n (pc := 1) dX6_cut_1 (by decide) ?_
  show TT _ _ _ _ _ _ _ [(2, .inl x312), (0, .inr (some a0)), (1, .inr (some a1))] _ _
  refine tt_loc [(0, .inr (some a0)), (1, .inr (some a1)), (2, .inl x312)] (List.forall_mem_cons.mpr ⟨(.tail _ (.head _)), List.forall_mem_cons.mpr ⟨(.tail _ (.tail _ (.head _))), List.forall_mem_cons.mpr ⟨(.head _), fun _ z => absurd z List.not_mem_nil⟩⟩⟩) ?_
  exact B2 17 h hw hf x312 (by omega) (by omega) (by omega)
abbrev mX6_linksUpAt : tM := (RX6, cX6_linksUpAt, 4, 1, 21, false)
set_option maxHeartbeats 4000000 in
theorem g_X6_linksUpAt {l : Launch} {D : va_G} {N : Nat} {pk : Int} {τ : List Nat} (hN2 : 2 ≤ N) (hN8 : N ≤ 8) (hp0 : 0 ≤ pk) (hp64 : pk ≤ 64) {h : List tC} (hw : WT N pk τ h) (a0 : Nat) (ta0 : τ[a0]? = some 6) (a1 : Int32) : TMc l D yX6_linksUpAt cX6_linksUpAt 4 (some .int) 1 21 0 0 [.inr (some a0), .inl a1] h (fun rv h' => h = h' ∧ ∃ x : Int32, rv = some (.inl x) ∧ -2147483648 ≤ x.toInt ∧ x.toInt ≤ 2147483647) := by
  refine tmc_of false rfl (by decide) (Nat.le_of_ble_eq_true rfl) ?_
  suffices HQ : ∀ Q0, Q0 = tRt cX6_linksUpAt (some .int) (fun rv h' => h = h' ∧ ∃ x : Int32, rv = some (.inl x) ∧ -2147483648 ≤ x.toInt ∧ x.toInt ≤ 2147483647) → TT l D mX6_linksUpAt Q0 0 0 0 [(0, .inr (some a0)), (1, .inl a1)] [] h from HQ _ rfl
  intro Q0 hQ
  have B4 : ∀ (n4 : Nat) (x153 : Int32) (x154 : Int32) (lx154 : 0 ≤ x154.toInt) (ux154 : x154.toInt ≤ 12), 12 - x154.toInt < n4 → TT l D mX6_linksUpAt Q0 0 0 4 [(0, .inr (some a0)), (1, .inl a1), (2, .inl x153), (3, .inl x154)] [] h := by
    intro n4
    induction n4 with
    | zero =>
      intro x153 x154 lx154 ux154 hn4
      exfalso
      omega
    | succ n4 ih4 =>
      intro x153 x154 lx154 ux154 hn4
      have bx153 := i_ty x153
      have B29 : ∀ (x155 : Int32) (x156 : Int32) (lx156 : 0 ≤ x156.toInt) (ux156 : x156.toInt ≤ 11) (hn4 : 12 - x156.toInt < ((n4 + 1 : Nat) : Int)), TT l D mX6_linksUpAt Q0 0 0 29 [(0, .inr (some a0)), (1, .inl a1), (2, .inl x155), (3, .inl x156)] [] h := by
        intro x155 x156 lx156 ux156 hn4
        have bx155 := i_ty x155
        refine tw_iinc (pc := 29) dX6_linksUpAt_29 (.tail _ (.tail _ (.tail _ (.head _)))) (by decide) (by decide) (by omega) (fun x157 ex157 => ?_)
        show TT _ _ _ _ _ _ _ [(3, .inl x157), (0, .inr (some a0)), (1, .inl a1), (2, .inl x155)] _ _
        refine tt_goto (tgt := 4) (pc := 32) dX6_linksUpAt_32 (by decide) ?_
        refine tt_loc [(0, .inr (some a0)), (1, .inl a1), (2, .inl x155), (3, .inl x157)] (List.forall_mem_cons.mpr ⟨(.tail _ (.head _)), List.forall_mem_cons.mpr ⟨(.tail _ (.tail _ (.head _))), List.forall_mem_cons.mpr ⟨(.tail _ (.tail _ (.tail _ (.head _)))), List.forall_mem_cons.mpr ⟨(.head _), fun _ z => absurd z List.not_mem_nil⟩⟩⟩⟩) ?_
        exact ih4 x155 x157 (by omega) (by omega) (by omega)
      refine tt_iload_n (pc := 4) dX6_linksUpAt_4 (.tail _ (.tail _ (.tail _ (.head _)))) ?_
      refine tw_bipush (pc := 5) dX6_linksUpAt_5 (by decide) (fun x158 ex158 => ?_)
      refine tw_icmp (tgt := 35) (pc := 7) dX6_linksUpAt_7 (by decide) (fun (c159 : x158.toInt ≤ x154.toInt) => ?_) (fun (c159 : ¬ (x158.toInt ≤ x154.toInt)) => ?_)
      · skip
        refine tt_iload_n (pc := 35) dX6_linksUpAt_35 (.tail _ (.tail _ (.head _))) ?_
        refine tt_stop ?_
        rw [hQ]
        exact Or.inr (Or.inl ⟨x153, dX6_linksUpAt_36, rfl, Or.inl rfl, rfl, x153, rfl, by omega, by omega⟩)
      · skip
        refine tt_aload_n (pc := 10) dX6_linksUpAt_10 (.head _) ?_
        refine tw_getr (pc := 11) dX6_linksUpAt_11 flX6_11 hw ta0 (by decide) rfl (fun f160 q161 ef160 gf160 tq161 => ?_)
        refine tt_iload_n (pc := 14) dX6_linksUpAt_14 (.tail _ (.tail _ (.tail _ (.head _)))) ?_
        refine tw_ald (pc := 15) dX6_linksUpAt_15 hw tq161 rfl (by decide) (by omega) (by omega) (fun f162 q163 ef162 gf162 tq163 => ?_)
        refine tt_iload_n (pc := 16) dX6_linksUpAt_16 (.tail _ (.head _)) ?_
        refine tw_callV (kc := 0) (ks := 0) (mc := 0) (ms := 0) (as := [.inl a1]) (st := []) (pc := 17) hw tq163 (by decide) dX6_linksUpAt_17 lkX6_273 imX0_isUpAt seX0_isUpAt rfl rfl (by decide) (by decide) (Nat.le_of_ble_eq_true rfl) (g_X0_isUpAt hN2 hN8 hp0 hp64 hw q163 tq163 a1) (fun rv h164 qh164 => ?_)
        obtain ⟨rfl, x165, rfl, lx165, ux165⟩ := qh164
        show TT _ _ _ _ _ _ _ _ [.inl x165] _
        refine tw_if (tgt := 29) (pc := 20) dX6_linksUpAt_20 (by decide) (fun (c166 : x165.toInt = 0) => ?_) (fun (c166 : ¬ (x165.toInt = 0)) => ?_)
        · skip
          refine tt_loc [(0, .inr (some a0)), (1, .inl a1), (2, .inl x153), (3, .inl x154)] (List.forall_mem_cons.mpr ⟨(.head _), List.forall_mem_cons.mpr ⟨(.tail _ (.head _)), List.forall_mem_cons.mpr ⟨(.tail _ (.tail _ (.head _))), List.forall_mem_cons.mpr ⟨(.tail _ (.tail _ (.tail _ (.head _)))), fun _ z => absurd z List.not_mem_nil⟩⟩⟩⟩) ?_
          exact B29 x153 x154 (by omega) (by omega) (by omega)
        · skip
          refine tt_iload_n (pc := 23) dX6_linksUpAt_23 (.tail _ (.tail _ (.head _))) ?_
          refine tw_iconst (pc := 24) dX6_linksUpAt_24 (by decide) (fun x167 ex167 => ?_)
          refine tt_iload_n (pc := 25) dX6_linksUpAt_25 (.tail _ (.tail _ (.tail _ (.head _)))) ?_
          refine tt_ishl (pc := 26) dX6_linksUpAt_26 ?_
          refine tw_any (fun x168 => ?_)
          have bx168 := i_ty x168
          refine tt_ior (pc := 27) dX6_linksUpAt_27 ?_
          refine tw_any (fun x169 => ?_)
          have bx169 := i_ty x169
          refine tt_istore_n (pc := 28) dX6_linksUpAt_28 (by decide) ?_
          show TT _ _ _ _ _ _ _ [(2, .inl x169), (0, .inr (some a0)), (1, .inl a1), (3, .inl x154)] _ _
          refine tt_loc [(0, .inr (some a0)), (1, .inl a1), (2, .inl x169), (3, .inl x154)] (List.forall_mem_cons.mpr ⟨(.tail _ (.head _)), List.forall_mem_cons.mpr ⟨(.tail _ (.tail _ (.head _))), List.forall_mem_cons.mpr ⟨(.head _), List.forall_mem_cons.mpr ⟨(.tail _ (.tail _ (.tail _ (.head _)))), fun _ z => absurd z List.not_mem_nil⟩⟩⟩⟩) ?_
          exact B29 x169 x154 (by omega) (by omega) (by omega)
  have ba1 := i_ty a1
  refine tw_iconst (pc := 0) dX6_linksUpAt_0 (by decide) (fun x170 ex170 => ?_)
  refine tt_istore_n (pc := 1) dX6_linksUpAt_1 (by decide) ?_
  show TT _ _ _ _ _ _ _ [(2, .inl x170), (0, .inr (some a0)), (1, .inl a1)] _ _
  refine tw_iconst (pc := 2) dX6_linksUpAt_2 (by decide) (fun x171 ex171 => ?_)
  refine tt_istore_n (pc := 3) dX6_linksUpAt_3 (by decide) ?_
  show TT _ _ _ _ _ _ _ [(3, .inl x171), (2, .inl x170), (0, .inr (some a0)), (1, .inl a1)] _ _
  refine tt_loc [(0, .inr (some a0)), (1, .inl a1), (2, .inl x170), (3, .inl x171)] (List.forall_mem_cons.mpr ⟨(.tail _ (.tail _ (.head _))), List.forall_mem_cons.mpr ⟨(.tail _ (.tail _ (.tail _ (.head _)))), List.forall_mem_cons.mpr ⟨(.tail _ (.head _)), List.forall_mem_cons.mpr ⟨(.head _), fun _ z => absurd z List.not_mem_nil⟩⟩⟩⟩) ?_
  exact B4 13 x170 x171 (by omega) (by omega) (by omega)
abbrev mX6_prefixesAt : tM := (RX6, cX6_prefixesAt, 4, 0, 0, false)
set_option maxHeartbeats 4000000 in
theorem g_X6_prefixesAt {l : Launch} {D : va_G} {N : Nat} {pk : Int} {τ : List Nat} (hN2 : 2 ≤ N) (hN8 : N ≤ 8) (hp0 : 0 ≤ pk) (hp64 : pk ≤ 64) {h : List tC} (hw : WT N pk τ h) (a0 : Nat) (ta0 : τ[a0]? = some 6) (a1 : Int32) : TMc l D yX6_prefixesAt cX6_prefixesAt 4 (some .int) 0 0 0 0 [.inr (some a0), .inl a1] h (fun rv h' => h = h' ∧ ∃ x : Int32, rv = some (.inl x) ∧ -2147483648 ≤ x.toInt ∧ x.toInt ≤ 2147483647) := by
  refine tmc_of false rfl (by decide) (Nat.le_of_ble_eq_true rfl) ?_
  suffices HQ : ∀ Q0, Q0 = tRt cX6_prefixesAt (some .int) (fun rv h' => h = h' ∧ ∃ x : Int32, rv = some (.inl x) ∧ -2147483648 ≤ x.toInt ∧ x.toInt ≤ 2147483647) → TT l D mX6_prefixesAt Q0 0 0 0 [(0, .inr (some a0)), (1, .inl a1)] [] h from HQ _ rfl
  intro Q0 hQ
  have B4 : ∀ (n4 : Nat) (x105 : Int32) (x106 : Int32) (lx106 : 0 ≤ x106.toInt) (ux106 : x106.toInt ≤ 8), 8 - x106.toInt < n4 → TT l D mX6_prefixesAt Q0 0 0 4 [(0, .inr (some a0)), (1, .inl a1), (2, .inl x105), (3, .inl x106)] [] h := by
    intro n4
    induction n4 with
    | zero =>
      intro x105 x106 lx106 ux106 hn4
      exfalso
      omega
    | succ n4 ih4 =>
      intro x105 x106 lx106 ux106 hn4
      have bx105 := i_ty x105
      have B26 : ∀ (x107 : Int32) (x108 : Int32) (lx108 : 0 ≤ x108.toInt) (ux108 : x108.toInt ≤ 7) (hn4 : 8 - x108.toInt < ((n4 + 1 : Nat) : Int)), TT l D mX6_prefixesAt Q0 0 0 26 [(0, .inr (some a0)), (1, .inl a1), (2, .inl x107), (3, .inl x108)] [] h := by
        intro x107 x108 lx108 ux108 hn4
        have bx107 := i_ty x107
        refine tw_iinc (pc := 26) dX6_prefixesAt_26 (.tail _ (.tail _ (.tail _ (.head _)))) (by decide) (by decide) (by omega) (fun x109 ex109 => ?_)
        show TT _ _ _ _ _ _ _ [(3, .inl x109), (0, .inr (some a0)), (1, .inl a1), (2, .inl x107)] _ _
        refine tt_goto (tgt := 4) (pc := 29) dX6_prefixesAt_29 (by decide) ?_
        refine tt_loc [(0, .inr (some a0)), (1, .inl a1), (2, .inl x107), (3, .inl x109)] (List.forall_mem_cons.mpr ⟨(.tail _ (.head _)), List.forall_mem_cons.mpr ⟨(.tail _ (.tail _ (.head _))), List.forall_mem_cons.mpr ⟨(.tail _ (.tail _ (.tail _ (.head _)))), List.forall_mem_cons.mpr ⟨(.head _), fun _ z => absurd z List.not_mem_nil⟩⟩⟩⟩) ?_
        exact ih4 x107 x109 (by omega) (by omega) (by omega)
      refine tt_iload_n (pc := 4) dX6_prefixesAt_4 (.tail _ (.tail _ (.tail _ (.head _)))) ?_
      refine tw_bipush (pc := 5) dX6_prefixesAt_5 (by decide) (fun x110 ex110 => ?_)
      refine tw_icmp (tgt := 32) (pc := 7) dX6_prefixesAt_7 (by decide) (fun (c111 : x110.toInt ≤ x106.toInt) => ?_) (fun (c111 : ¬ (x110.toInt ≤ x106.toInt)) => ?_)
      · skip
        refine tt_iload_n (pc := 32) dX6_prefixesAt_32 (.tail _ (.tail _ (.head _))) ?_
        refine tt_stop ?_
        rw [hQ]
        exact Or.inr (Or.inl ⟨x105, dX6_prefixesAt_33, rfl, Or.inl rfl, rfl, x105, rfl, by omega, by omega⟩)
      · skip
        refine tt_aload_n (pc := 10) dX6_prefixesAt_10 (.head _) ?_
        refine tw_getr (pc := 11) dX6_prefixesAt_11 flX6_15 hw ta0 (by decide) rfl (fun f112 q113 ef112 gf112 tq113 => ?_)
        refine tt_iload_n (pc := 14) dX6_prefixesAt_14 (.tail _ (.tail _ (.tail _ (.head _)))) ?_
        refine tw_ild (pc := 15) dX6_prefixesAt_15 hw tq113 rfl (by omega) (by omega) (fun f115 x114 ef115 gf115 lx114 ux114 => ?_)
        refine tt_iload_n (pc := 16) dX6_prefixesAt_16 (.tail _ (.head _)) ?_
        refine tw_icmp (tgt := 26) (pc := 17) dX6_prefixesAt_17 (by decide) (fun (c116 : x114.toInt ≠ a1.toInt) => ?_) (fun (c116 : ¬ (x114.toInt ≠ a1.toInt)) => ?_)
        · skip
          refine tt_loc [(0, .inr (some a0)), (1, .inl a1), (2, .inl x105), (3, .inl x106)] (List.forall_mem_cons.mpr ⟨(.head _), List.forall_mem_cons.mpr ⟨(.tail _ (.head _)), List.forall_mem_cons.mpr ⟨(.tail _ (.tail _ (.head _))), List.forall_mem_cons.mpr ⟨(.tail _ (.tail _ (.tail _ (.head _)))), fun _ z => absurd z List.not_mem_nil⟩⟩⟩⟩) ?_
          exact B26 x105 x106 (by omega) (by omega) (by omega)
        · skip
          refine tt_iload_n (pc := 20) dX6_prefixesAt_20 (.tail _ (.tail _ (.head _))) ?_
          refine tw_iconst (pc := 21) dX6_prefixesAt_21 (by decide) (fun x117 ex117 => ?_)
          refine tt_iload_n (pc := 22) dX6_prefixesAt_22 (.tail _ (.tail _ (.tail _ (.head _)))) ?_
          refine tt_ishl (pc := 23) dX6_prefixesAt_23 ?_
          refine tw_any (fun x118 => ?_)
          have bx118 := i_ty x118
          refine tt_ior (pc := 24) dX6_prefixesAt_24 ?_
          refine tw_any (fun x119 => ?_)
          have bx119 := i_ty x119
          refine tt_istore_n (pc := 25) dX6_prefixesAt_25 (by decide) ?_
          show TT _ _ _ _ _ _ _ [(2, .inl x119), (0, .inr (some a0)), (1, .inl a1), (3, .inl x106)] _ _
          refine tt_loc [(0, .inr (some a0)), (1, .inl a1), (2, .inl x119), (3, .inl x106)] (List.forall_mem_cons.mpr ⟨(.tail _ (.head _)), List.forall_mem_cons.mpr ⟨(.tail _ (.tail _ (.head _))), List.forall_mem_cons.mpr ⟨(.head _), List.forall_mem_cons.mpr ⟨(.tail _ (.tail _ (.tail _ (.head _)))), fun _ z => absurd z List.not_mem_nil⟩⟩⟩⟩) ?_
          exact B26 x119 x106 (by omega) (by omega) (by omega)
  have ba1 := i_ty a1
  refine tw_iconst (pc := 0) dX6_prefixesAt_0 (by decide) (fun x120 ex120 => ?_)
  refine tt_istore_n (pc := 1) dX6_prefixesAt_1 (by decide) ?_
  show TT _ _ _ _ _ _ _ [(2, .inl x120), (0, .inr (some a0)), (1, .inl a1)] _ _
  refine tw_iconst (pc := 2) dX6_prefixesAt_2 (by decide) (fun x121 ex121 => ?_)
  refine tt_istore_n (pc := 3) dX6_prefixesAt_3 (by decide) ?_
  show TT _ _ _ _ _ _ _ [(3, .inl x121), (2, .inl x120), (0, .inr (some a0)), (1, .inl a1)] _ _
  refine tt_loc [(0, .inr (some a0)), (1, .inl a1), (2, .inl x120), (3, .inl x121)] (List.forall_mem_cons.mpr ⟨(.tail _ (.tail _ (.head _))), List.forall_mem_cons.mpr ⟨(.tail _ (.tail _ (.tail _ (.head _)))), List.forall_mem_cons.mpr ⟨(.tail _ (.head _)), List.forall_mem_cons.mpr ⟨(.head _), fun _ z => absurd z List.not_mem_nil⟩⟩⟩⟩) ?_
  exact B4 9 x120 x121 (by omega) (by omega) (by omega)
abbrev mX6_learn : tM := (RX6, cX6_learn, 5, 3, 66, false)
set_option maxHeartbeats 4000000 in
theorem g_X6_learn {l : Launch} {D : va_G} {N : Nat} {pk : Int} {τ : List Nat} (hN2 : 2 ≤ N) (hN8 : N ≤ 8) (hp0 : 0 ≤ pk) (hp64 : pk ≤ 64) {h : List tC} (hw : WT N pk τ h) (a0 : Nat) (ta0 : τ[a0]? = some 6) (a1 : Nat) (ta1 : τ[a1]? = some 4) (a2 : Nat) (ta2 : τ[a2]? = some 5) : TMc l D yX6_learn cX6_learn 5 none 3 66 0 0 [.inr (some a0), .inr (some a1), .inr (some a2)] h (fun rv h' => WT N pk τ h' ∧ Fr PX τ h h' ∧ rv = none) := by
  refine tmc_of false rfl (by decide) (Nat.le_of_ble_eq_true rfl) ?_
  suffices HQ : ∀ Q0, Q0 = tRt cX6_learn none (fun rv h' => WT N pk τ h' ∧ Fr PX τ h h' ∧ rv = none) → TT l D mX6_learn Q0 0 0 0 [(0, .inr (some a0)), (1, .inr (some a1)), (2, .inr (some a2))] [] h from HQ _ rfl
  intro Q0 hQ
  have hf : Fr PX τ h h := Fr.rf
  have B16 : ∀ (n16 : Nat) (hb : List tC) (hwb : WT N pk τ hb) (hfb : Fr PX τ h hb) (x233 : Int32) (lx233 : 0 ≤ x233.toInt) (ux233 : x233.toInt ≤ 12), 12 - x233.toInt < n16 → TT l D mX6_learn Q0 0 0 16 [(0, .inr (some a0)), (1, .inr (some a1)), (3, .inl x233)] [] hb := by
    intro n16
    induction n16 with
    | zero =>
      intro hb hwb hfb x233 lx233 ux233 hn16
      exfalso
      omega
    | succ n16 ih16 =>
      intro hb hwb hfb x233 lx233 ux233 hn16
      have B83 : ∀ (hb : List tC) (hwb : WT N pk τ hb) (hfb : Fr PX τ h hb) (x234 : Int32) (lx234 : 0 ≤ x234.toInt) (ux234 : x234.toInt ≤ 11) (hn16 : 12 - x234.toInt < ((n16 + 1 : Nat) : Int)), TT l D mX6_learn Q0 0 0 83 [(0, .inr (some a0)), (1, .inr (some a1)), (3, .inl x234)] [] hb := by
        intro hb hwb hfb x234 lx234 ux234 hn16
        refine tw_iinc (pc := 83) dX6_learn_83 (.tail _ (.tail _ (.head _))) (by decide) (by decide) (by omega) (fun x235 ex235 => ?_)
        show TT _ _ _ _ _ _ _ [(3, .inl x235), (0, .inr (some a0)), (1, .inr (some a1))] _ _
        refine tt_goto (tgt := 16) (pc := 86) dX6_learn_86 (by decide) ?_
        refine tt_loc [(0, .inr (some a0)), (1, .inr (some a1)), (3, .inl x235)] (List.forall_mem_cons.mpr ⟨(.tail _ (.head _)), List.forall_mem_cons.mpr ⟨(.tail _ (.tail _ (.head _))), List.forall_mem_cons.mpr ⟨(.head _), fun _ z => absurd z List.not_mem_nil⟩⟩⟩) ?_
        exact ih16 hb hwb hfb x235 (by omega) (by omega) (by omega)
      refine tt_iload_n (pc := 16) dX6_learn_16 (.tail _ (.tail _ (.head _))) ?_
      refine tw_bipush (pc := 17) dX6_learn_17 (by decide) (fun x236 ex236 => ?_)
      refine tw_icmp (tgt := 89) (pc := 19) dX6_learn_19 (by decide) (fun (c237 : x236.toInt ≤ x233.toInt) => ?_) (fun (c237 : ¬ (x236.toInt ≤ x233.toInt)) => ?_)
      · skip
        refine tt_aload_n (pc := 89) dX6_learn_89 (.tail _ (.head _)) ?_
        refine tw_callV (kc := 0) (ks := 0) (mc := 0) (ms := 0) (as := []) (st := []) (pc := 90) hwb ta1 (by decide) dX6_learn_90 lkX6_296 imX4_joinSteps seX4_joinSteps rfl rfl (by decide) (by decide) (Nat.le_of_ble_eq_true rfl) (g_X4_joinSteps hN2 hN8 hp0 hp64 hwb a1 ta1) (fun rv h238 qh238 => ?_)
        obtain ⟨wh238, fh238, rfl⟩ := qh238
        have hfh238 := hfb.tr fh238
        show TT _ _ _ _ _ _ _ _ [] _
        refine tt_stop ?_
        rw [hQ]
        exact Or.inl ⟨dX6_learn_93, rfl, rfl, wh238, hfh238, rfl⟩
      · skip
        refine tt_aload_n (pc := 22) dX6_learn_22 (.head _) ?_
        refine tw_getr (pc := 23) dX6_learn_23 flX6_11 hwb ta0 (by decide) rfl (fun f239 q240 ef239 gf239 tq240 => ?_)
        refine tt_iload_n (pc := 26) dX6_learn_26 (.tail _ (.tail _ (.head _))) ?_
        refine tw_ald (pc := 27) dX6_learn_27 hwb tq240 rfl (by decide) (by omega) (by omega) (fun f241 q242 ef241 gf241 tq242 => ?_)
        refine tt_astore (pc := 28) dX6_learn_28 (by decide) ?_
        show TT _ _ _ _ _ _ _ [(4, .inr (some q242)), (0, .inr (some a0)), (1, .inr (some a1)), (3, .inl x233)] _ _
        refine tt_aload (pc := 30) dX6_learn_30 (.head _) ?_
        refine tw_geti (pc := 32) dX6_learn_32 flX6_72 hwb tq242 (by decide) rfl (fun f243 x244 ef243 gf243 lx244 ux244 => ?_)
        refine tw_if (tgt := 83) (pc := 35) dX6_learn_35 (by decide) (fun (c245 : x244.toInt = 0) => ?_) (fun (c245 : ¬ (x244.toInt = 0)) => ?_)
        · skip
          refine tt_loc [(0, .inr (some a0)), (1, .inr (some a1)), (3, .inl x233)] (List.forall_mem_cons.mpr ⟨(.tail _ (.head _)), List.forall_mem_cons.mpr ⟨(.tail _ (.tail _ (.head _))), List.forall_mem_cons.mpr ⟨(.tail _ (.tail _ (.tail _ (.head _)))), fun _ z => absurd z List.not_mem_nil⟩⟩⟩) ?_
          exact B83 hb hwb hfb x233 (by omega) (by omega) (by omega)
        · skip
          refine tt_aload_n (pc := 38) dX6_learn_38 (.tail _ (.tail _ (.head _))) ?_
          refine tt_aload (pc := 39) dX6_learn_39 (.head _) ?_
          refine tw_geti (pc := 41) dX6_learn_41 flX6_81 hwb tq242 (by decide) rfl (fun f246 x247 ef246 gf246 lx247 ux247 => ?_)
          refine tt_iload_n (pc := 44) dX6_learn_44 (.tail _ (.tail _ (.tail _ (.head _)))) ?_
          refine tw_callV (kc := 0) (ks := 0) (mc := 0) (ms := 0) (as := [.inl x247, .inl x233]) (st := []) (pc := 45) hwb ta1 (by decide) dX6_learn_45 lkX6_288 imX4_knowsUp seX4_knowsUp rfl rfl (by decide) (by decide) (Nat.le_of_ble_eq_true rfl) (g_X4_knowsUp hN2 hN8 hp0 hp64 hwb a1 ta1 x247 (by omega) (by omega) x233) (fun rv h248 qh248 => ?_)
          obtain ⟨rfl, x249, rfl, lx249, ux249⟩ := qh248
          show TT _ _ _ _ _ _ _ _ [.inl x249] _
          refine tw_if (tgt := 83) (pc := 48) dX6_learn_48 (by decide) (fun (c250 : x249.toInt = 0) => ?_) (fun (c250 : ¬ (x249.toInt = 0)) => ?_)
          · skip
            refine tt_loc [(0, .inr (some a0)), (1, .inr (some a1)), (3, .inl x233)] (List.forall_mem_cons.mpr ⟨(.tail _ (.head _)), List.forall_mem_cons.mpr ⟨(.tail _ (.tail _ (.head _))), List.forall_mem_cons.mpr ⟨(.tail _ (.tail _ (.tail _ (.head _)))), fun _ z => absurd z List.not_mem_nil⟩⟩⟩) ?_
            exact B83 hb hwb hfb x233 (by omega) (by omega) (by omega)
          · skip
            refine tt_aload_n (pc := 51) dX6_learn_51 (.tail _ (.tail _ (.head _))) ?_
            refine tt_aload (pc := 52) dX6_learn_52 (.head _) ?_
            refine tw_geti (pc := 54) dX6_learn_54 flX6_84 hwb tq242 (by decide) rfl (fun f251 x252 ef251 gf251 lx252 ux252 => ?_)
            refine tt_iload_n (pc := 57) dX6_learn_57 (.tail _ (.tail _ (.tail _ (.head _)))) ?_
            refine tw_callV (kc := 0) (ks := 0) (mc := 0) (ms := 0) (as := [.inl x252, .inl x233]) (st := []) (pc := 58) hwb ta1 (by decide) dX6_learn_58 lkX6_288 imX4_knowsUp seX4_knowsUp rfl rfl (by decide) (by decide) (Nat.le_of_ble_eq_true rfl) (g_X4_knowsUp hN2 hN8 hp0 hp64 hwb a1 ta1 x252 (by omega) (by omega) x233) (fun rv h253 qh253 => ?_)
            obtain ⟨rfl, x254, rfl, lx254, ux254⟩ := qh253
            show TT _ _ _ _ _ _ _ _ [.inl x254] _
            refine tw_if (tgt := 83) (pc := 61) dX6_learn_61 (by decide) (fun (c255 : x254.toInt = 0) => ?_) (fun (c255 : ¬ (x254.toInt = 0)) => ?_)
            · skip
              refine tt_loc [(0, .inr (some a0)), (1, .inr (some a1)), (3, .inl x233)] (List.forall_mem_cons.mpr ⟨(.tail _ (.head _)), List.forall_mem_cons.mpr ⟨(.tail _ (.tail _ (.head _))), List.forall_mem_cons.mpr ⟨(.tail _ (.tail _ (.tail _ (.head _)))), fun _ z => absurd z List.not_mem_nil⟩⟩⟩) ?_
              exact B83 hb hwb hfb x233 (by omega) (by omega) (by omega)
            · skip
              refine tt_aload_n (pc := 64) dX6_learn_64 (.tail _ (.tail _ (.head _))) ?_
              refine tt_aload (pc := 65) dX6_learn_65 (.head _) ?_
              refine tt_get (pc := 67) dX6_learn_67 flX6_81 ef246 gf246 ?_
              refine tt_aload (pc := 70) dX6_learn_70 (.head _) ?_
              refine tt_get (pc := 72) dX6_learn_72 flX6_84 ef251 gf251 ?_
              refine tt_aload (pc := 75) dX6_learn_75 (.head _) ?_
              refine tw_geti (pc := 77) dX6_learn_77 flX6_87 hwb tq242 (by decide) rfl (fun f256 x257 ef256 gf256 lx257 ux257 => ?_)
              refine tw_callV (kc := 0) (ks := 0) (mc := 0) (ms := 0) (as := [.inl x247, .inl x252, .inl x257]) (st := []) (pc := 80) hwb ta1 (by decide) dX6_learn_80 lkX6_292 imX4_takeStep seX4_takeStep rfl rfl (by decide) (by decide) (Nat.le_of_ble_eq_true rfl) (g_X4_takeStep hN2 hN8 hp0 hp64 hwb a1 ta1 x247 (by omega) (by omega) x252 (by omega) (by omega) x257) (fun rv h258 qh258 => ?_)
              obtain ⟨wh258, fh258, rfl⟩ := qh258
              have hfh258 := hfb.tr fh258
              show TT _ _ _ _ _ _ _ _ [] _
              refine tt_loc [(0, .inr (some a0)), (1, .inr (some a1)), (3, .inl x233)] (List.forall_mem_cons.mpr ⟨(.tail _ (.head _)), List.forall_mem_cons.mpr ⟨(.tail _ (.tail _ (.head _))), List.forall_mem_cons.mpr ⟨(.tail _ (.tail _ (.tail _ (.head _)))), fun _ z => absurd z List.not_mem_nil⟩⟩⟩) ?_
              exact B83 h258 wh258 hfh258 x233 (by omega) (by omega) (by omega)
  refine tt_aload_n (pc := 0) dX6_learn_0 (.tail _ (.head _)) ?_
  refine tw_getr (pc := 1) dX6_learn_1 flX6_185 hw ta1 (by decide) rfl (fun f259 q260 ef259 gf259 tq260 => ?_)
  refine tt_aload_n (pc := 4) dX6_learn_4 (.tail _ (.tail _ (.head _))) ?_
  refine tw_geti (pc := 5) dX6_learn_5 flX6_284 hw ta2 (by decide) rfl (fun f261 x262 ef261 gf261 lx262 ux262 => ?_)
  refine tt_aload_n (pc := 8) dX6_learn_8 (.tail _ (.tail _ (.head _))) ?_
  refine tw_ast (P := PX) (pc := 9) dX6_learn_9 hw tq260 rfl (by decide) ta2 (by decide) rfl rfl (by omega) (by omega) (by decide) (fun f263 h264 eh264 gh264 kh264 wh264 fh264 => ?_)
  have hfh264 := hf.tr fh264
  refine tt_aload_n (pc := 10) dX6_learn_10 (.tail _ (.head _)) ?_
  refine tw_callV (kc := 0) (ks := 0) (mc := 0) (ms := 0) (as := []) (st := []) (pc := 11) wh264 ta1 (by decide) dX6_learn_11 lkX6_285 imX4_forgetDistances seX4_forgetDistances rfl rfl (by decide) (by decide) (Nat.le_of_ble_eq_true rfl) (g_X4_forgetDistances hN2 hN8 hp0 hp64 wh264 a1 ta1) (fun rv h265 qh265 => ?_)
  obtain ⟨wh265, fh265, rfl⟩ := qh265
  have hfh265 := hfh264.tr fh265
  show TT _ _ _ _ _ _ _ _ [] _
  refine tw_iconst (pc := 14) dX6_learn_14 (by decide) (fun x266 ex266 => ?_)
  refine tt_istore_n (pc := 15) dX6_learn_15 (by decide) ?_
  show TT _ _ _ _ _ _ _ [(3, .inl x266), (0, .inr (some a0)), (1, .inr (some a1)), (2, .inr (some a2))] _ _
  refine tt_loc [(0, .inr (some a0)), (1, .inr (some a1)), (3, .inl x266)] (List.forall_mem_cons.mpr ⟨(.tail _ (.head _)), List.forall_mem_cons.mpr ⟨(.tail _ (.tail _ (.head _))), List.forall_mem_cons.mpr ⟨(.head _), fun _ z => absurd z List.not_mem_nil⟩⟩⟩) ?_
  exact B16 13 h265 wh265 hfh265 x266 (by omega) (by omega) (by omega)
abbrev mX6_hop : tM := (RX6, cX6_hop, 6, 1, 22, false)
set_option maxHeartbeats 4000000 in
theorem g_X6_hop {l : Launch} {D : va_G} {N : Nat} {pk : Int} {τ : List Nat} (hN2 : 2 ≤ N) (hN8 : N ≤ 8) (hp0 : 0 ≤ pk) (hp64 : pk ≤ 64) {h : List tC} (hw : WT N pk τ h) (a0 : Nat) (ta0 : τ[a0]? = some 6) (a1 : Nat) (ta1 : τ[a1]? = some 4) (a2 : Int32) (la2 : 0 ≤ a2.toInt) (ua2 : a2.toInt ≤ 7) : TMc l D yX6_hop cX6_hop 6 (some .int) 1 22 0 0 [.inr (some a0), .inr (some a1), .inl a2] h (fun rv h' => h = h' ∧ ∃ x : Int32, rv = some (.inl x) ∧ -1 ≤ x.toInt ∧ x.toInt ≤ 11) := by
  refine tmc_of false rfl (by decide) (Nat.le_of_ble_eq_true rfl) ?_
  suffices HQ : ∀ Q0, Q0 = tRt cX6_hop (some .int) (fun rv h' => h = h' ∧ ∃ x : Int32, rv = some (.inl x) ∧ -1 ≤ x.toInt ∧ x.toInt ≤ 11) → TT l D mX6_hop Q0 0 0 0 [(0, .inr (some a0)), (1, .inr (some a1)), (2, .inl a2)] [] h from HQ _ rfl
  intro Q0 hQ
  have B31 : ∀ (n31 : Nat) (x291 : Int32) (lx291 : -2147483648 ≤ x291.toInt) (ux291 : x291.toInt ≤ 999999) (x292 : Int32) (lx292 : 0 ≤ x292.toInt) (ux292 : x292.toInt ≤ 12), 12 - x292.toInt < n31 → TT l D mX6_hop Q0 0 0 31 [(0, .inr (some a0)), (1, .inr (some a1)), (2, .inl a2), (3, .inl x291), (4, .inl x292)] [] h := by
    intro n31
    induction n31 with
    | zero =>
      intro x291 lx291 ux291 x292 lx292 ux292 hn31
      exfalso
      omega
    | succ n31 ih31 =>
      intro x291 lx291 ux291 x292 lx292 ux292 hn31
      have B101 : ∀ (x293 : Int32) (lx293 : -2147483648 ≤ x293.toInt) (ux293 : x293.toInt ≤ 999999) (x294 : Int32) (lx294 : 0 ≤ x294.toInt) (ux294 : x294.toInt ≤ 11) (hn31 : 12 - x294.toInt < ((n31 + 1 : Nat) : Int)), TT l D mX6_hop Q0 0 0 101 [(0, .inr (some a0)), (1, .inr (some a1)), (2, .inl a2), (3, .inl x293), (4, .inl x294)] [] h := by
        intro x293 lx293 ux293 x294 lx294 ux294 hn31
        refine tw_iinc (pc := 101) dX6_hop_101 (.tail _ (.tail _ (.tail _ (.tail _ (.head _))))) (by decide) (by decide) (by omega) (fun x295 ex295 => ?_)
        show TT _ _ _ _ _ _ _ [(4, .inl x295), (0, .inr (some a0)), (1, .inr (some a1)), (2, .inl a2), (3, .inl x293)] _ _
        refine tt_goto (tgt := 31) (pc := 104) dX6_hop_104 (by decide) ?_
        refine tt_loc [(0, .inr (some a0)), (1, .inr (some a1)), (2, .inl a2), (3, .inl x293), (4, .inl x295)] (List.forall_mem_cons.mpr ⟨(.tail _ (.head _)), List.forall_mem_cons.mpr ⟨(.tail _ (.tail _ (.head _))), List.forall_mem_cons.mpr ⟨(.tail _ (.tail _ (.tail _ (.head _)))), List.forall_mem_cons.mpr ⟨(.tail _ (.tail _ (.tail _ (.tail _ (.head _))))), List.forall_mem_cons.mpr ⟨(.head _), fun _ z => absurd z List.not_mem_nil⟩⟩⟩⟩⟩) ?_
        exact ih31 x293 (by omega) (by omega) x295 (by omega) (by omega) (by omega)
      refine tt_iload (pc := 31) dX6_hop_31 (.tail _ (.tail _ (.tail _ (.tail _ (.head _))))) ?_
      refine tw_bipush (pc := 33) dX6_hop_33 (by decide) (fun x296 ex296 => ?_)
      refine tw_icmp (tgt := 107) (pc := 35) dX6_hop_35 (by decide) (fun (c297 : x296.toInt ≤ x292.toInt) => ?_) (fun (c297 : ¬ (x296.toInt ≤ x292.toInt)) => ?_)
      · skip
        refine tw_iconst (pc := 107) dX6_hop_107 (by decide) (fun x298 ex298 => ?_)
        refine tt_stop ?_
        rw [hQ]
        exact Or.inr (Or.inl ⟨x298, dX6_hop_108, rfl, Or.inl rfl, rfl, x298, rfl, by omega, by omega⟩)
      · skip
        refine tt_aload_n (pc := 38) dX6_hop_38 (.head _) ?_
        refine tw_getr (pc := 39) dX6_hop_39 flX6_11 hw ta0 (by decide) rfl (fun f299 q300 ef299 gf299 tq300 => ?_)
        refine tt_iload (pc := 42) dX6_hop_42 (.tail _ (.tail _ (.tail _ (.tail _ (.head _))))) ?_
        refine tw_ald (pc := 44) dX6_hop_44 hw tq300 rfl (by decide) (by omega) (by omega) (fun f301 q302 ef301 gf301 tq302 => ?_)
        refine tt_astore (pc := 45) dX6_hop_45 (by decide) ?_
        show TT _ _ _ _ _ _ _ [(5, .inr (some q302)), (0, .inr (some a0)), (1, .inr (some a1)), (2, .inl a2), (3, .inl x291), (4, .inl x292)] _ _
        refine tt_aload (pc := 47) dX6_hop_47 (.head _) ?_
        refine tt_aload_n (pc := 49) dX6_hop_49 (.tail _ (.tail _ (.head _))) ?_
        refine tw_geti (pc := 50) dX6_hop_50 flX6_249 hw ta1 (by decide) rfl (fun f303 x304 ef303 gf303 lx304 ux304 => ?_)
        refine tw_callV (kc := 0) (ks := 0) (mc := 0) (ms := 0) (as := [.inl x304]) (st := []) (pc := 53) hw tq302 (by decide) dX6_hop_53 lkX6_273 imX0_isUpAt seX0_isUpAt rfl rfl (by decide) (by decide) (Nat.le_of_ble_eq_true rfl) (g_X0_isUpAt hN2 hN8 hp0 hp64 hw q302 tq302 x304) (fun rv h305 qh305 => ?_)
        obtain ⟨rfl, x306, rfl, lx306, ux306⟩ := qh305
        show TT _ _ _ _ _ _ _ _ [.inl x306] _
        refine tw_if (tgt := 101) (pc := 56) dX6_hop_56 (by decide) (fun (c307 : x306.toInt = 0) => ?_) (fun (c307 : ¬ (x306.toInt = 0)) => ?_)
        · skip
          refine tt_loc [(0, .inr (some a0)), (1, .inr (some a1)), (2, .inl a2), (3, .inl x291), (4, .inl x292)] (List.forall_mem_cons.mpr ⟨(.tail _ (.head _)), List.forall_mem_cons.mpr ⟨(.tail _ (.tail _ (.head _))), List.forall_mem_cons.mpr ⟨(.tail _ (.tail _ (.tail _ (.head _)))), List.forall_mem_cons.mpr ⟨(.tail _ (.tail _ (.tail _ (.tail _ (.head _))))), List.forall_mem_cons.mpr ⟨(.tail _ (.tail _ (.tail _ (.tail _ (.tail _ (.head _)))))), fun _ z => absurd z List.not_mem_nil⟩⟩⟩⟩⟩) ?_
          exact B101 x291 (by omega) (by omega) x292 (by omega) (by omega) (by omega)
        · skip
          refine tt_aload_n (pc := 59) dX6_hop_59 (.tail _ (.tail _ (.head _))) ?_
          refine tt_aload_n (pc := 60) dX6_hop_60 (.tail _ (.tail _ (.head _))) ?_
          refine tt_get (pc := 61) dX6_hop_61 flX6_249 ef303 gf303 ?_
          refine tt_iload (pc := 64) dX6_hop_64 (.tail _ (.tail _ (.tail _ (.tail _ (.tail _ (.head _)))))) ?_
          refine tw_callV (kc := 0) (ks := 0) (mc := 0) (ms := 0) (as := [.inl x304, .inl x292]) (st := []) (pc := 66) hw ta1 (by decide) dX6_hop_66 lkX6_288 imX4_knowsUp seX4_knowsUp rfl rfl (by decide) (by decide) (Nat.le_of_ble_eq_true rfl) (g_X4_knowsUp hN2 hN8 hp0 hp64 hw a1 ta1 x304 (by omega) (by omega) x292) (fun rv h308 qh308 => ?_)
          obtain ⟨rfl, x309, rfl, lx309, ux309⟩ := qh308
          show TT _ _ _ _ _ _ _ _ [.inl x309] _
          refine tw_if (tgt := 101) (pc := 69) dX6_hop_69 (by decide) (fun (c310 : x309.toInt = 0) => ?_) (fun (c310 : ¬ (x309.toInt = 0)) => ?_)
          · skip
            refine tt_loc [(0, .inr (some a0)), (1, .inr (some a1)), (2, .inl a2), (3, .inl x291), (4, .inl x292)] (List.forall_mem_cons.mpr ⟨(.tail _ (.head _)), List.forall_mem_cons.mpr ⟨(.tail _ (.tail _ (.head _))), List.forall_mem_cons.mpr ⟨(.tail _ (.tail _ (.tail _ (.head _)))), List.forall_mem_cons.mpr ⟨(.tail _ (.tail _ (.tail _ (.tail _ (.head _))))), List.forall_mem_cons.mpr ⟨(.tail _ (.tail _ (.tail _ (.tail _ (.tail _ (.head _)))))), fun _ z => absurd z List.not_mem_nil⟩⟩⟩⟩⟩) ?_
            exact B101 x291 (by omega) (by omega) x292 (by omega) (by omega) (by omega)
          · skip
            refine tt_aload (pc := 72) dX6_hop_72 (.head _) ?_
            refine tw_geti (pc := 74) dX6_hop_74 flX6_87 hw tq302 (by decide) rfl (fun f311 x312 ef311 gf311 lx312 ux312 => ?_)
            refine tt_aload_n (pc := 77) dX6_hop_77 (.tail _ (.tail _ (.head _))) ?_
            refine tw_getr (pc := 78) dX6_hop_78 flX6_194 hw ta1 (by decide) rfl (fun f313 q314 ef313 gf313 tq314 => ?_)
            refine tt_aload (pc := 81) dX6_hop_81 (.head _) ?_
            refine tt_aload_n (pc := 83) dX6_hop_83 (.tail _ (.tail _ (.head _))) ?_
            refine tt_get (pc := 84) dX6_hop_84 flX6_249 ef303 gf303 ?_
            refine tw_callV (kc := 0) (ks := 0) (mc := 0) (ms := 0) (as := [.inl x304]) (st := [.inr (some q314), .inl x312]) (pc := 87) hw tq302 (by decide) dX6_hop_87 lkX6_299 imX0_otherEnd seX0_otherEnd rfl rfl (by decide) (by decide) (Nat.le_of_ble_eq_true rfl) (g_X0_otherEnd hN2 hN8 hp0 hp64 hw q302 tq302 x304) (fun rv h315 qh315 => ?_)
            obtain ⟨rfl, x316, rfl, lx316, ux316⟩ := qh315
            show TT _ _ _ _ _ _ _ _ [.inl x316, .inr (some q314), .inl x312] _
            refine tw_ald (pc := 90) dX6_hop_90 hw tq314 rfl (by decide) (by omega) (by omega) (fun f317 q318 ef317 gf317 tq318 => ?_)
            refine tt_iload_n (pc := 91) dX6_hop_91 (.tail _ (.tail _ (.tail _ (.head _)))) ?_
            refine tw_ild (pc := 92) dX6_hop_92 hw tq318 rfl (by omega) (by omega) (fun f320 x319 ef320 gf320 lx319 ux319 => ?_)
            refine tt_iadd (pc := 93) dX6_hop_93 ?_
            refine tw_any (fun x321 => ?_)
            have bx321 := i_ty x321
            refine tt_iload_n (pc := 94) dX6_hop_94 (.tail _ (.tail _ (.tail _ (.tail _ (.head _))))) ?_
            refine tw_icmp (tgt := 101) (pc := 95) dX6_hop_95 (by decide) (fun (c322 : x321.toInt ≠ x291.toInt) => ?_) (fun (c322 : ¬ (x321.toInt ≠ x291.toInt)) => ?_)
            · skip
              refine tt_loc [(0, .inr (some a0)), (1, .inr (some a1)), (2, .inl a2), (3, .inl x291), (4, .inl x292)] (List.forall_mem_cons.mpr ⟨(.tail _ (.head _)), List.forall_mem_cons.mpr ⟨(.tail _ (.tail _ (.head _))), List.forall_mem_cons.mpr ⟨(.tail _ (.tail _ (.tail _ (.head _)))), List.forall_mem_cons.mpr ⟨(.tail _ (.tail _ (.tail _ (.tail _ (.head _))))), List.forall_mem_cons.mpr ⟨(.tail _ (.tail _ (.tail _ (.tail _ (.tail _ (.head _)))))), fun _ z => absurd z List.not_mem_nil⟩⟩⟩⟩⟩) ?_
              exact B101 x291 (by omega) (by omega) x292 (by omega) (by omega) (by omega)
            · skip
              refine tt_iload (pc := 98) dX6_hop_98 (.tail _ (.tail _ (.tail _ (.tail _ (.tail _ (.head _)))))) ?_
              refine tt_stop ?_
              rw [hQ]
              exact Or.inr (Or.inl ⟨x292, dX6_hop_100, rfl, Or.inl rfl, rfl, x292, rfl, by omega, by omega⟩)
  have B26 : TT l D mX6_hop Q0 0 0 26 [] [] h := by
    refine tw_iconst (pc := 26) dX6_hop_26 (by decide) (fun x323 ex323 => ?_)
    refine tt_stop ?_
    rw [hQ]
    exact Or.inr (Or.inl ⟨x323, dX6_hop_27, rfl, Or.inl rfl, rfl, x323, rfl, by omega, by omega⟩)
  refine tt_aload_n (pc := 0) dX6_hop_0 (.tail _ (.head _)) ?_
  refine tw_getr (pc := 1) dX6_hop_1 flX6_194 hw ta1 (by decide) rfl (fun f324 q325 ef324 gf324 tq325 => ?_)
  refine tt_aload_n (pc := 4) dX6_hop_4 (.tail _ (.head _)) ?_
  refine tw_geti (pc := 5) dX6_hop_5 flX6_249 hw ta1 (by decide) rfl (fun f326 x327 ef326 gf326 lx327 ux327 => ?_)
  refine tw_ald (pc := 8) dX6_hop_8 hw tq325 rfl (by decide) (by omega) (by omega) (fun f328 q329 ef328 gf328 tq329 => ?_)
  refine tt_iload_n (pc := 9) dX6_hop_9 (.tail _ (.tail _ (.head _))) ?_
  refine tw_ild (pc := 10) dX6_hop_10 hw tq329 rfl (by omega) (by omega) (fun f331 x330 ef331 gf331 lx330 ux330 => ?_)
  refine tt_istore_n (pc := 11) dX6_hop_11 (by decide) ?_
  show TT _ _ _ _ _ _ _ [(3, .inl x330), (0, .inr (some a0)), (1, .inr (some a1)), (2, .inl a2)] _ _
  refine tt_iload_n (pc := 12) dX6_hop_12 (.tail _ (.tail _ (.tail _ (.head _)))) ?_
  refine tt_aload_n (pc := 13) dX6_hop_13 (.tail _ (.tail _ (.head _))) ?_
  refine tt_get (pc := 14) dX6_hop_14 flX6_249 ef326 gf326 ?_
  refine tw_icmp (tgt := 26) (pc := 17) dX6_hop_17 (by decide) (fun (c332 : a2.toInt = x327.toInt) => ?_) (fun (c332 : ¬ (a2.toInt = x327.toInt)) => ?_)
  · skip
    refine tt_loc [] (fun _ z => absurd z List.not_mem_nil) ?_
    exact B26 
  · skip
    refine tt_iload_n (pc := 20) dX6_hop_20 (.head _) ?_
    refine tw_ldc (n := 1000000) (pc := 21) dX6_hop_21 rfl kcX6_198 (by decide) (fun x333 ex333 => ?_)
    refine tw_icmp (tgt := 28) (pc := 23) dX6_hop_23 (by decide) (fun (c334 : x330.toInt < x333.toInt) => ?_) (fun (c334 : ¬ (x330.toInt < x333.toInt)) => ?_)
    · skip
      refine tw_iconst (pc := 28) dX6_hop_28 (by decide) (fun x335 ex335 => ?_)
      refine tt_istore (pc := 29) dX6_hop_29 (by decide) ?_
      show TT _ _ _ _ _ _ _ [(4, .inl x335), (3, .inl x330), (0, .inr (some a0)), (1, .inr (some a1)), (2, .inl a2)] _ _
      refine tt_loc [(0, .inr (some a0)), (1, .inr (some a1)), (2, .inl a2), (3, .inl x330), (4, .inl x335)] (List.forall_mem_cons.mpr ⟨(.tail _ (.tail _ (.head _))), List.forall_mem_cons.mpr ⟨(.tail _ (.tail _ (.tail _ (.head _)))), List.forall_mem_cons.mpr ⟨(.tail _ (.tail _ (.tail _ (.tail _ (.head _))))), List.forall_mem_cons.mpr ⟨(.tail _ (.head _)), List.forall_mem_cons.mpr ⟨(.head _), fun _ z => absurd z List.not_mem_nil⟩⟩⟩⟩⟩) ?_
      exact B31 13 x330 (by omega) (by omega) x335 (by omega) (by omega) (by omega)
    · skip
      refine tt_loc [] (fun _ z => absurd z List.not_mem_nil) ?_
      exact B26 
abbrev mX6_hopToEgress : tM := (RX6, cX6_hopToEgress, 4, 2, 47, false)
set_option maxHeartbeats 4000000 in
theorem g_X6_hopToEgress {l : Launch} {D : va_G} {N : Nat} {pk : Int} {τ : List Nat} (hN2 : 2 ≤ N) (hN8 : N ≤ 8) (hp0 : 0 ≤ pk) (hp64 : pk ≤ 64) {h : List tC} (hw : WT N pk τ h) (a0 : Nat) (ta0 : τ[a0]? = some 6) (a1 : Nat) (ta1 : τ[a1]? = some 4) (a2 : Int32) : TMc l D yX6_hopToEgress cX6_hopToEgress 4 (some .int) 2 47 0 0 [.inr (some a0), .inr (some a1), .inl a2] h (fun rv h' => h = h' ∧ ∃ x : Int32, rv = some (.inl x) ∧ -1 ≤ x.toInt ∧ x.toInt ≤ 11) := by
  refine tmc_of false rfl (by decide) (Nat.le_of_ble_eq_true rfl) ?_
  suffices HQ : ∀ Q0, Q0 = tRt cX6_hopToEgress (some .int) (fun rv h' => h = h' ∧ ∃ x : Int32, rv = some (.inl x) ∧ -1 ≤ x.toInt ∧ x.toInt ≤ 11) → TT l D mX6_hopToEgress Q0 0 0 0 [(0, .inr (some a0)), (1, .inr (some a1)), (2, .inl a2)] [] h from HQ _ rfl
  intro Q0 hQ
  have ba2 := i_ty a2
  refine tt_aload_n (pc := 0) dX6_hopToEgress_0 (.tail _ (.head _)) ?_
  refine tt_iload_n (pc := 1) dX6_hopToEgress_1 (.tail _ (.tail _ (.head _))) ?_
  refine tw_callV (kc := 0) (ks := 0) (mc := 0) (ms := 0) (as := [.inl a2]) (st := []) (pc := 2) hw ta1 (by decide) dX6_hopToEgress_2 lkX6_203 imX4_egress seX4_egress rfl rfl (by decide) (by decide) (Nat.le_of_ble_eq_true rfl) (g_X4_egress hN2 hN8 hp0 hp64 hw a1 ta1 a2) (fun rv h8 qh8 => ?_)
  obtain ⟨rfl, x9, rfl, lx9, ux9⟩ := qh8
  show TT _ _ _ _ _ _ _ _ [.inl x9] _
  refine tt_istore_n (pc := 5) dX6_hopToEgress_5 (by decide) ?_
  show TT _ _ _ _ _ _ _ [(3, .inl x9), (0, .inr (some a0)), (1, .inr (some a1)), (2, .inl a2)] _ _
  refine tt_iload_n (pc := 6) dX6_hopToEgress_6 (.head _) ?_
  refine tw_iconst (pc := 7) dX6_hopToEgress_7 (by decide) (fun x10 ex10 => ?_)
  refine tw_icmp (tgt := 15) (pc := 8) dX6_hopToEgress_8 (by decide) (fun (c11 : x9.toInt ≠ x10.toInt) => ?_) (fun (c11 : ¬ (x9.toInt ≠ x10.toInt)) => ?_)
  · skip
    refine tt_aload_n (pc := 15) dX6_hopToEgress_15 (.tail _ (.head _)) ?_
    refine tt_aload_n (pc := 16) dX6_hopToEgress_16 (.tail _ (.tail _ (.head _))) ?_
    refine tt_iload_n (pc := 17) dX6_hopToEgress_17 (.head _) ?_
    refine tw_callV (kc := 0) (ks := 0) (mc := 0) (ms := 0) (as := [.inr (some a1), .inl x9]) (st := []) (pc := 18) hw ta0 (by decide) dX6_hopToEgress_18 lkX6_199 imX6_hop seX6_hop rfl rfl (by decide) (by decide) (Nat.le_of_ble_eq_true rfl) (g_X6_hop hN2 hN8 hp0 hp64 hw a0 ta0 a1 ta1 x9 (by omega) (by omega)) (fun rv h12 qh12 => ?_)
    obtain ⟨rfl, x13, rfl, lx13, ux13⟩ := qh12
    show TT _ _ _ _ _ _ _ _ [.inl x13] _
    refine tt_stop ?_
    rw [hQ]
    exact Or.inr (Or.inl ⟨x13, dX6_hopToEgress_21, rfl, Or.inl rfl, rfl, x13, rfl, by omega, by omega⟩)
  · skip
    refine tw_iconst (pc := 11) dX6_hopToEgress_11 (by decide) (fun x14 ex14 => ?_)
    refine tt_goto (tgt := 21) (pc := 12) dX6_hopToEgress_12 (by decide) ?_
    refine tt_stop ?_
    rw [hQ]
    exact Or.inr (Or.inl ⟨x14, dX6_hopToEgress_21, rfl, Or.inl rfl, rfl, x14, rfl, by omega, by omega⟩)
abbrev mX6_put : tM := (RX6, cX6_put, 5, 1, 21, false)
set_option maxHeartbeats 4000000 in
theorem g_X6_put {l : Launch} {D : va_G} {N : Nat} {pk : Int} {τ : List Nat} (hN2 : 2 ≤ N) (hN8 : N ≤ 8) (hp0 : 0 ≤ pk) (hp64 : pk ≤ 64) {h : List tC} (hw : WT N pk τ h) (a0 : Nat) (ta0 : τ[a0]? = some 6) (a1 : Nat) (ta1 : τ[a1]? = some 4) (a2 : Int32) (la2 : 0 ≤ a2.toInt) (ua2 : a2.toInt ≤ 11) (a3 : Nat) (ta3 : τ[a3]? = some 1) : TMc l D yX6_put cX6_put 5 (some .boolean) 1 21 0 0 [.inr (some a0), .inr (some a1), .inl a2, .inr (some a3)] h (fun rv h' => WT N pk τ h' ∧ Fr PX τ h h' ∧ ∃ x : Int32, rv = some (.inl x) ∧ 0 ≤ x.toInt ∧ x.toInt ≤ 1) := by
  refine tmc_of false rfl (by decide) (Nat.le_of_ble_eq_true rfl) ?_
  suffices HQ : ∀ Q0, Q0 = tRt cX6_put (some .boolean) (fun rv h' => WT N pk τ h' ∧ Fr PX τ h h' ∧ ∃ x : Int32, rv = some (.inl x) ∧ 0 ≤ x.toInt ∧ x.toInt ≤ 1) → TT l D mX6_put Q0 0 0 0 [(0, .inr (some a0)), (1, .inr (some a1)), (2, .inl a2), (3, .inr (some a3))] [] h from HQ _ rfl
  intro Q0 hQ
  have hf : Fr PX τ h h := Fr.rf
  have B74 : ∀ (hb : List tC) (hwb : WT N pk τ hb) (hfb : Fr PX τ h hb), TT l D mX6_put Q0 0 0 74 [] [] hb := by
    intro hb hwb hfb
    refine tw_iconst (pc := 74) dX6_put_74 (by decide) (fun x46 ex46 => ?_)
    refine tt_stop ?_
    rw [hQ]
    exact Or.inr (Or.inl ⟨x46, dX6_put_75, rfl, Or.inr ⟨rfl, bool01 (by omega) (by omega)⟩, hwb, hfb, x46, rfl, by omega, by omega⟩)
  have B33 : ∀ (hb : List tC) (hwb : WT N pk τ hb) (hfb : Fr PX τ h hb), TT l D mX6_put Q0 0 0 33 [(0, .inr (some a0)), (1, .inr (some a1)), (2, .inl a2), (3, .inr (some a3))] [] hb := by
    intro hb hwb hfb
    refine tt_aload_n (pc := 33) dX6_put_33 (.head _) ?_
    refine tw_getr (pc := 34) dX6_put_34 flX6_11 hwb ta0 (by decide) rfl (fun f47 q48 ef47 gf47 tq48 => ?_)
    refine tt_iload_n (pc := 37) dX6_put_37 (.tail _ (.tail _ (.head _))) ?_
    refine tw_ald (pc := 38) dX6_put_38 hwb tq48 rfl (by decide) (by omega) (by omega) (fun f49 q50 ef49 gf49 tq50 => ?_)
    refine tt_aload_n (pc := 39) dX6_put_39 (.tail _ (.head _)) ?_
    refine tw_geti (pc := 40) dX6_put_40 flX6_249 hwb ta1 (by decide) rfl (fun f51 x52 ef51 gf51 lx52 ux52 => ?_)
    refine tw_callV (kc := 0) (ks := 0) (mc := 0) (ms := 0) (as := [.inl x52]) (st := []) (pc := 43) hwb tq50 (by decide) dX6_put_43 lkX6_308 imX0_queueOf seX0_queueOf rfl rfl (by decide) (by decide) (Nat.le_of_ble_eq_true rfl) (g_X0_queueOf hN2 hN8 hp0 hp64 hwb q50 tq50 x52) (fun rv h53 qh53 => ?_)
    obtain ⟨rfl, q54, rfl, tq54⟩ := qh53
    show TT _ _ _ _ _ _ _ _ [.inr (some q54)] _
    refine tw_callV (kc := 0) (ks := 0) (mc := 0) (ms := 0) (as := []) (st := []) (pc := 46) hwb tq54 (by decide) dX6_put_46 lkX6_312 imX2_nextFree seX2_nextFree rfl rfl (by decide) (by decide) (Nat.le_of_ble_eq_true rfl) (g_X2_nextFree hN2 hN8 hp0 hp64 hwb q54 tq54) (fun rv h55 qh55 => ?_)
    obtain ⟨wh55, fh55, o56, rfl, to56⟩ := qh55
    have hfh55 := hfb.tr fh55
    show TT _ _ _ _ _ _ _ _ [.inr o56] _
    refine tt_astore (pc := 49) dX6_put_49 (by decide) ?_
    show TT _ _ _ _ _ _ _ [(4, .inr o56), (0, .inr (some a0)), (1, .inr (some a1)), (2, .inl a2), (3, .inr (some a3))] _ _
    refine tt_aload (pc := 51) dX6_put_51 (.head _) ?_
    refine tt_ifnonnull (tgt := 76) (pc := 53) dX6_put_53 (by decide) (fun q58 z57 => ?_) (fun z57 => ?_)
    · have tq58 := to56 q58 z57
      subst z57
      refine tt_aload (pc := 76) dX6_put_76 (.head _) ?_
      refine tt_aload_n (pc := 78) dX6_put_78 (.tail _ (.tail _ (.tail _ (.tail _ (.head _))))) ?_
      refine tw_callV (kc := 0) (ks := 0) (mc := 0) (ms := 0) (as := [.inr (some a3)]) (st := []) (pc := 79) wh55 tq58 (by decide) dX6_put_79 lkX6_316 imX1_copy seX1_copy rfl rfl (by decide) (by decide) (Nat.le_of_ble_eq_true rfl) (g_X1_copy hN2 hN8 hp0 hp64 wh55 q58 tq58 a3 ta3) (fun rv h59 qh59 => ?_)
      obtain ⟨wh59, fh59, rfl⟩ := qh59
      have hfh59 := hfh55.tr fh59
      show TT _ _ _ _ _ _ _ _ [] _
      refine tw_iconst (pc := 82) dX6_put_82 (by decide) (fun x60 ex60 => ?_)
      refine tt_stop ?_
      rw [hQ]
      exact Or.inr (Or.inl ⟨x60, dX6_put_83, rfl, Or.inr ⟨rfl, bool01 (by omega) (by omega)⟩, wh59, hfh59, x60, rfl, by omega, by omega⟩)
    · subst z57
      refine tt_aload_n (pc := 56) dX6_put_56 (.tail _ (.tail _ (.tail _ (.tail _ (.head _))))) ?_
      refine tw_geti (pc := 57) dX6_put_57 flX6_246 wh55 ta3 (by decide) rfl (fun f61 x62 ef61 gf61 lx62 ux62 => ?_)
      refine tw_iconst (pc := 60) dX6_put_60 (by decide) (fun x63 ex63 => ?_)
      refine tw_icmp (tgt := 74) (pc := 61) dX6_put_61 (by decide) (fun (c64 : x62.toInt = x63.toInt) => ?_) (fun (c64 : ¬ (x62.toInt = x63.toInt)) => ?_)
      · skip
        refine tt_loc [] (fun _ z => absurd z List.not_mem_nil) ?_
        exact B74 h55 wh55 hfh55
      · skip
        refine tt_aload_n (pc := 64) dX6_put_64 (.tail _ (.head _)) ?_
        refine tt_dup (pc := 65) dX6_put_65 ?_
        refine tw_geti (pc := 66) dX6_put_66 flX6_29 wh55 ta0 (by decide) rfl (fun f65 x66 ef65 gf65 lx66 ux66 => ?_)
        refine tw_iconst (pc := 69) dX6_put_69 (by decide) (fun x67 ex67 => ?_)
        refine tt_iadd (pc := 70) dX6_put_70 ?_
        refine tw_any (fun x68 => ?_)
        have bx68 := i_ty x68
        refine tw_put (P := PX) (pc := 71) dX6_put_71 flX6_29 wh55 ta0 (by decide) rfl ⟨by omega, by omega⟩ rfl (by decide) (by decide) (fun f69 h70 eh70 gh70 kh70 wh70 fh70 => ?_)
        have hfh70 := hfh55.tr fh70
        refine tt_loc [] (fun _ z => absurd z List.not_mem_nil) ?_
        exact B74 h70 wh70 hfh70
  refine tt_aload_n (pc := 0) dX6_put_0 (.tail _ (.tail _ (.tail _ (.head _)))) ?_
  refine tw_geti (pc := 1) dX6_put_1 flX6_246 hw ta3 (by decide) rfl (fun f71 x72 ef71 gf71 lx72 ux72 => ?_)
  refine tw_iconst (pc := 4) dX6_put_4 (by decide) (fun x73 ex73 => ?_)
  refine tw_icmp (tgt := 33) (pc := 5) dX6_put_5 (by decide) (fun (c74 : x72.toInt ≠ x73.toInt) => ?_) (fun (c74 : ¬ (x72.toInt ≠ x73.toInt)) => ?_)
  · skip
    refine tt_loc [(0, .inr (some a0)), (1, .inr (some a1)), (2, .inl a2), (3, .inr (some a3))] (List.forall_mem_cons.mpr ⟨(.head _), List.forall_mem_cons.mpr ⟨(.tail _ (.head _)), List.forall_mem_cons.mpr ⟨(.tail _ (.tail _ (.head _))), List.forall_mem_cons.mpr ⟨(.tail _ (.tail _ (.tail _ (.head _)))), fun _ z => absurd z List.not_mem_nil⟩⟩⟩⟩) ?_
    exact B33 h hw hf
  · skip
    refine tt_aload_n (pc := 8) dX6_put_8 (.tail _ (.tail _ (.tail _ (.head _)))) ?_
    refine tw_geti (pc := 9) dX6_put_9 flX6_179 hw ta3 (by decide) rfl (fun f75 x76 ef75 gf75 lx76 ux76 => ?_)
    refine tt_callS (kc := 0) (ks := 0) (mc := 0) (ms := 0) (as := [.inl x76]) (st := []) (pc := 12) dX6_put_12 lkX6_302 smX4_isOwnLabel rfl (by decide) (by decide) (Nat.le_of_ble_eq_true rfl) (g_X4_isOwnLabel hN2 hN8 hp0 hp64 hw x76) (fun rv h77 qh77 => ?_)
    obtain ⟨rfl, x78, rfl, lx78, ux78, Gx78⟩ := qh77
    show TT _ _ _ _ _ _ _ _ [.inl x78] _
    refine tw_if (tgt := 33) (pc := 15) dX6_put_15 (by decide) (fun (c81 : x78.toInt = 0) => ?_) (fun (c81 : ¬ (x78.toInt = 0)) => ?_)
    · skip
      refine tt_loc [(0, .inr (some a0)), (1, .inr (some a1)), (2, .inl a2), (3, .inr (some a3))] (List.forall_mem_cons.mpr ⟨(.head _), List.forall_mem_cons.mpr ⟨(.tail _ (.head _)), List.forall_mem_cons.mpr ⟨(.tail _ (.tail _ (.head _))), List.forall_mem_cons.mpr ⟨(.tail _ (.tail _ (.tail _ (.head _)))), fun _ z => absurd z List.not_mem_nil⟩⟩⟩⟩) ?_
      exact B33 h hw hf
    · obtain ⟨b79, b80⟩ := Gx78 (by omega)
      refine tt_aload_n (pc := 18) dX6_put_18 (.tail _ (.head _)) ?_
      refine tw_getr (pc := 19) dX6_put_19 flX6_305 hw ta1 (by decide) rfl (fun f82 q83 ef82 gf82 tq83 => ?_)
      refine tt_aload_n (pc := 22) dX6_put_22 (.tail _ (.tail _ (.tail _ (.head _)))) ?_
      refine tt_get (pc := 23) dX6_put_23 flX6_179 ef75 gf75 ?_
      refine tt_dup2 (pc := 26) dX6_put_26 ?_
      refine tw_ild (pc := 27) dX6_put_27 hw tq83 rfl (by omega) (by omega) (fun f85 x84 ef85 gf85 lx84 ux84 => ?_)
      refine tw_iconst (pc := 28) dX6_put_28 (by decide) (fun x86 ex86 => ?_)
      refine tt_iload_n (pc := 29) dX6_put_29 (.tail _ (.tail _ (.head _))) ?_
      refine tt_ishl (pc := 30) dX6_put_30 ?_
      refine tw_any (fun x87 => ?_)
      have bx87 := i_ty x87
      refine tt_ior (pc := 31) dX6_put_31 ?_
      refine tw_any (fun x88 => ?_)
      have bx88 := i_ty x88
      refine tw_ist (P := PX) (pc := 32) dX6_put_32 hw tq83 rfl (by omega) (by omega) (by omega) (by omega) (by decide) (fun f89 h90 eh90 gh90 kh90 wh90 fh90 => ?_)
      have hfh90 := hf.tr fh90
      refine tt_loc [(0, .inr (some a0)), (1, .inr (some a1)), (2, .inl a2), (3, .inr (some a3))] (List.forall_mem_cons.mpr ⟨(.head _), List.forall_mem_cons.mpr ⟨(.tail _ (.head _)), List.forall_mem_cons.mpr ⟨(.tail _ (.tail _ (.head _))), List.forall_mem_cons.mpr ⟨(.tail _ (.tail _ (.tail _ (.head _)))), fun _ z => absurd z List.not_mem_nil⟩⟩⟩⟩) ?_
      exact B33 h90 wh90 hfh90
abbrev mX6_sendOnAll : tM := (RX6, cX6_sendOnAll, 5, 2, 45, false)
set_option maxHeartbeats 4000000 in
theorem g_X6_sendOnAll {l : Launch} {D : va_G} {N : Nat} {pk : Int} {τ : List Nat} (hN2 : 2 ≤ N) (hN8 : N ≤ 8) (hp0 : 0 ≤ pk) (hp64 : pk ≤ 64) {h : List tC} (hw : WT N pk τ h) (a0 : Nat) (ta0 : τ[a0]? = some 6) (a1 : Nat) (ta1 : τ[a1]? = some 4) (a2 : Nat) (ta2 : τ[a2]? = some 1) (a3 : Int32) : TMc l D yX6_sendOnAll cX6_sendOnAll 5 none 2 45 0 0 [.inr (some a0), .inr (some a1), .inr (some a2), .inl a3] h (fun rv h' => WT N pk τ h' ∧ Fr PX τ h h' ∧ rv = none) := by
  refine tmc_of false rfl (by decide) (Nat.le_of_ble_eq_true rfl) ?_
  suffices HQ : ∀ Q0, Q0 = tRt cX6_sendOnAll none (fun rv h' => WT N pk τ h' ∧ Fr PX τ h h' ∧ rv = none) → TT l D mX6_sendOnAll Q0 0 0 0 [(0, .inr (some a0)), (1, .inr (some a1)), (2, .inr (some a2)), (3, .inl a3)] [] h from HQ _ rfl
  intro Q0 hQ
  have hf : Fr PX τ h h := Fr.rf
  have B3 : ∀ (n3 : Nat) (hb : List tC) (hwb : WT N pk τ hb) (hfb : Fr PX τ h hb) (x153 : Int32) (lx153 : 0 ≤ x153.toInt) (ux153 : x153.toInt ≤ 12), 12 - x153.toInt < n3 → TT l D mX6_sendOnAll Q0 0 0 3 [(0, .inr (some a0)), (1, .inr (some a1)), (2, .inr (some a2)), (3, .inl a3), (4, .inl x153)] [] hb := by
    intro n3
    induction n3 with
    | zero =>
      intro hb hwb hfb x153 lx153 ux153 hn3
      exfalso
      omega
    | succ n3 ih3 =>
      intro hb hwb hfb x153 lx153 ux153 hn3
      have B42 : ∀ (hb : List tC) (hwb : WT N pk τ hb) (hfb : Fr PX τ h hb) (x154 : Int32) (lx154 : 0 ≤ x154.toInt) (ux154 : x154.toInt ≤ 11) (hn3 : 12 - x154.toInt < ((n3 + 1 : Nat) : Int)), TT l D mX6_sendOnAll Q0 0 0 42 [(0, .inr (some a0)), (1, .inr (some a1)), (2, .inr (some a2)), (3, .inl a3), (4, .inl x154)] [] hb := by
        intro hb hwb hfb x154 lx154 ux154 hn3
        refine tw_iinc (pc := 42) dX6_sendOnAll_42 (.tail _ (.tail _ (.tail _ (.tail _ (.head _))))) (by decide) (by decide) (by omega) (fun x155 ex155 => ?_)
        show TT _ _ _ _ _ _ _ [(4, .inl x155), (0, .inr (some a0)), (1, .inr (some a1)), (2, .inr (some a2)), (3, .inl a3)] _ _
        refine tt_goto (tgt := 3) (pc := 45) dX6_sendOnAll_45 (by decide) ?_
        refine tt_loc [(0, .inr (some a0)), (1, .inr (some a1)), (2, .inr (some a2)), (3, .inl a3), (4, .inl x155)] (List.forall_mem_cons.mpr ⟨(.tail _ (.head _)), List.forall_mem_cons.mpr ⟨(.tail _ (.tail _ (.head _))), List.forall_mem_cons.mpr ⟨(.tail _ (.tail _ (.tail _ (.head _)))), List.forall_mem_cons.mpr ⟨(.tail _ (.tail _ (.tail _ (.tail _ (.head _))))), List.forall_mem_cons.mpr ⟨(.head _), fun _ z => absurd z List.not_mem_nil⟩⟩⟩⟩⟩) ?_
        exact ih3 hb hwb hfb x155 (by omega) (by omega) (by omega)
      refine tt_iload (pc := 3) dX6_sendOnAll_3 (.tail _ (.tail _ (.tail _ (.tail _ (.head _))))) ?_
      refine tw_bipush (pc := 5) dX6_sendOnAll_5 (by decide) (fun x156 ex156 => ?_)
      refine tw_icmp (tgt := 48) (pc := 7) dX6_sendOnAll_7 (by decide) (fun (c157 : x156.toInt ≤ x153.toInt) => ?_) (fun (c157 : ¬ (x156.toInt ≤ x153.toInt)) => ?_)
      · skip
        refine tt_stop ?_
        rw [hQ]
        exact Or.inl ⟨dX6_sendOnAll_48, rfl, rfl, hwb, hfb, rfl⟩
      · skip
        refine tt_iload (pc := 10) dX6_sendOnAll_10 (.tail _ (.tail _ (.tail _ (.tail _ (.head _))))) ?_
        refine tt_iload_n (pc := 12) dX6_sendOnAll_12 (.tail _ (.tail _ (.tail _ (.head _)))) ?_
        refine tw_icmp (tgt := 42) (pc := 13) dX6_sendOnAll_13 (by decide) (fun (c158 : x153.toInt = a3.toInt) => ?_) (fun (c158 : ¬ (x153.toInt = a3.toInt)) => ?_)
        · skip
          refine tt_loc [(0, .inr (some a0)), (1, .inr (some a1)), (2, .inr (some a2)), (3, .inl a3), (4, .inl x153)] (List.forall_mem_cons.mpr ⟨(.head _), List.forall_mem_cons.mpr ⟨(.tail _ (.head _)), List.forall_mem_cons.mpr ⟨(.tail _ (.tail _ (.head _))), List.forall_mem_cons.mpr ⟨(.tail _ (.tail _ (.tail _ (.head _)))), List.forall_mem_cons.mpr ⟨(.tail _ (.tail _ (.tail _ (.tail _ (.head _))))), fun _ z => absurd z List.not_mem_nil⟩⟩⟩⟩⟩) ?_
          exact B42 hb hwb hfb x153 (by omega) (by omega) (by omega)
        · skip
          refine tt_aload_n (pc := 16) dX6_sendOnAll_16 (.head _) ?_
          refine tw_getr (pc := 17) dX6_sendOnAll_17 flX6_11 hwb ta0 (by decide) rfl (fun f159 q160 ef159 gf159 tq160 => ?_)
          refine tt_iload (pc := 20) dX6_sendOnAll_20 (.tail _ (.tail _ (.tail _ (.tail _ (.head _))))) ?_
          refine tw_ald (pc := 22) dX6_sendOnAll_22 hwb tq160 rfl (by decide) (by omega) (by omega) (fun f161 q162 ef161 gf161 tq162 => ?_)
          refine tt_aload_n (pc := 23) dX6_sendOnAll_23 (.tail _ (.head _)) ?_
          refine tw_geti (pc := 24) dX6_sendOnAll_24 flX6_249 hwb ta1 (by decide) rfl (fun f163 x164 ef163 gf163 lx164 ux164 => ?_)
          refine tw_callV (kc := 0) (ks := 0) (mc := 0) (ms := 0) (as := [.inl x164]) (st := []) (pc := 27) hwb tq162 (by decide) dX6_sendOnAll_27 lkX6_273 imX0_isUpAt seX0_isUpAt rfl rfl (by decide) (by decide) (Nat.le_of_ble_eq_true rfl) (g_X0_isUpAt hN2 hN8 hp0 hp64 hwb q162 tq162 x164) (fun rv h165 qh165 => ?_)
          obtain ⟨rfl, x166, rfl, lx166, ux166⟩ := qh165
          show TT _ _ _ _ _ _ _ _ [.inl x166] _
          refine tw_if (tgt := 42) (pc := 30) dX6_sendOnAll_30 (by decide) (fun (c167 : x166.toInt = 0) => ?_) (fun (c167 : ¬ (x166.toInt = 0)) => ?_)
          · skip
            refine tt_loc [(0, .inr (some a0)), (1, .inr (some a1)), (2, .inr (some a2)), (3, .inl a3), (4, .inl x153)] (List.forall_mem_cons.mpr ⟨(.head _), List.forall_mem_cons.mpr ⟨(.tail _ (.head _)), List.forall_mem_cons.mpr ⟨(.tail _ (.tail _ (.head _))), List.forall_mem_cons.mpr ⟨(.tail _ (.tail _ (.tail _ (.head _)))), List.forall_mem_cons.mpr ⟨(.tail _ (.tail _ (.tail _ (.tail _ (.head _))))), fun _ z => absurd z List.not_mem_nil⟩⟩⟩⟩⟩) ?_
            exact B42 hb hwb hfb x153 (by omega) (by omega) (by omega)
          · skip
            refine tt_aload_n (pc := 33) dX6_sendOnAll_33 (.head _) ?_
            refine tt_aload_n (pc := 34) dX6_sendOnAll_34 (.tail _ (.head _)) ?_
            refine tt_iload (pc := 35) dX6_sendOnAll_35 (.tail _ (.tail _ (.tail _ (.tail _ (.head _))))) ?_
            refine tt_aload_n (pc := 37) dX6_sendOnAll_37 (.tail _ (.tail _ (.head _))) ?_
            refine tw_callV (kc := 0) (ks := 0) (mc := 0) (ms := 0) (as := [.inr (some a1), .inl x153, .inr (some a2)]) (st := []) (pc := 38) hwb ta0 (by decide) dX6_sendOnAll_38 lkX6_276 imX6_put seX6_put rfl rfl (by decide) (by decide) (Nat.le_of_ble_eq_true rfl) (g_X6_put hN2 hN8 hp0 hp64 hwb a0 ta0 a1 ta1 x153 (by omega) (by omega) a2 ta2) (fun rv h168 qh168 => ?_)
            obtain ⟨wh168, fh168, x169, rfl, lx169, ux169⟩ := qh168
            have hfh168 := hfb.tr fh168
            show TT _ _ _ _ _ _ _ _ [.inl x169] _
            refine tt_pop (pc := 41) dX6_sendOnAll_41 ?_
            refine tt_loc [(0, .inr (some a0)), (1, .inr (some a1)), (2, .inr (some a2)), (3, .inl a3), (4, .inl x153)] (List.forall_mem_cons.mpr ⟨(.head _), List.forall_mem_cons.mpr ⟨(.tail _ (.head _)), List.forall_mem_cons.mpr ⟨(.tail _ (.tail _ (.head _))), List.forall_mem_cons.mpr ⟨(.tail _ (.tail _ (.tail _ (.head _)))), List.forall_mem_cons.mpr ⟨(.tail _ (.tail _ (.tail _ (.tail _ (.head _))))), fun _ z => absurd z List.not_mem_nil⟩⟩⟩⟩⟩) ?_
            exact B42 h168 wh168 hfh168 x153 (by omega) (by omega) (by omega)
  have ba3 := i_ty a3
  refine tw_iconst (pc := 0) dX6_sendOnAll_0 (by decide) (fun x170 ex170 => ?_)
  refine tt_istore (pc := 1) dX6_sendOnAll_1 (by decide) ?_
  show TT _ _ _ _ _ _ _ [(4, .inl x170), (0, .inr (some a0)), (1, .inr (some a1)), (2, .inr (some a2)), (3, .inl a3)] _ _
  refine tt_loc [(0, .inr (some a0)), (1, .inr (some a1)), (2, .inr (some a2)), (3, .inl a3), (4, .inl x170)] (List.forall_mem_cons.mpr ⟨(.tail _ (.head _)), List.forall_mem_cons.mpr ⟨(.tail _ (.tail _ (.head _))), List.forall_mem_cons.mpr ⟨(.tail _ (.tail _ (.tail _ (.head _)))), List.forall_mem_cons.mpr ⟨(.tail _ (.tail _ (.tail _ (.tail _ (.head _))))), List.forall_mem_cons.mpr ⟨(.head _), fun _ z => absurd z List.not_mem_nil⟩⟩⟩⟩⟩) ?_
  exact B3 13 h hw hf x170 (by omega) (by omega) (by omega)
abbrev mX6_putKnownNotes : tM := (RX6, cX6_putKnownNotes, 5, 2, 45, false)
set_option maxHeartbeats 4000000 in
theorem g_X6_putKnownNotes {l : Launch} {D : va_G} {N : Nat} {pk : Int} {τ : List Nat} (hN2 : 2 ≤ N) (hN8 : N ≤ 8) (hp0 : 0 ≤ pk) (hp64 : pk ≤ 64) {h : List tC} (hw : WT N pk τ h) (a0 : Nat) (ta0 : τ[a0]? = some 6) (a1 : Nat) (ta1 : τ[a1]? = some 4) (a2 : Int32) (la2 : 0 ≤ a2.toInt) (ua2 : a2.toInt ≤ 11) : TMc l D yX6_putKnownNotes cX6_putKnownNotes 5 none 2 45 0 0 [.inr (some a0), .inr (some a1), .inl a2] h (fun rv h' => WT N pk τ h' ∧ Fr PX τ h h' ∧ rv = none) := by
  refine tmc_of false rfl (by decide) (Nat.le_of_ble_eq_true rfl) ?_
  suffices HQ : ∀ Q0, Q0 = tRt cX6_putKnownNotes none (fun rv h' => WT N pk τ h' ∧ Fr PX τ h h' ∧ rv = none) → TT l D mX6_putKnownNotes Q0 0 0 0 [(0, .inr (some a0)), (1, .inr (some a1)), (2, .inl a2)] [] h from HQ _ rfl
  intro Q0 hQ
  have hf : Fr PX τ h h := Fr.rf
  have B2 : ∀ (n2 : Nat) (hb : List tC) (hwb : WT N pk τ hb) (hfb : Fr PX τ h hb) (x154 : Int32) (lx154 : 0 ≤ x154.toInt) (ux154 : x154.toInt ≤ 8), 8 - x154.toInt < n2 → TT l D mX6_putKnownNotes Q0 0 0 2 [(0, .inr (some a0)), (1, .inr (some a1)), (2, .inl a2), (3, .inl x154)] [] hb := by
    intro n2
    induction n2 with
    | zero =>
      intro hb hwb hfb x154 lx154 ux154 hn2
      exfalso
      omega
    | succ n2 ih2 =>
      intro hb hwb hfb x154 lx154 ux154 hn2
      have B48 : ∀ (hb : List tC) (hwb : WT N pk τ hb) (hfb : Fr PX τ h hb) (x155 : Int32) (lx155 : 0 ≤ x155.toInt) (ux155 : x155.toInt ≤ 7) (hn2 : 8 - x155.toInt < ((n2 + 1 : Nat) : Int)), TT l D mX6_putKnownNotes Q0 0 0 48 [(0, .inr (some a0)), (1, .inr (some a1)), (2, .inl a2), (3, .inl x155)] [] hb := by
        intro hb hwb hfb x155 lx155 ux155 hn2
        refine tw_iinc (pc := 48) dX6_putKnownNotes_48 (.tail _ (.tail _ (.tail _ (.head _)))) (by decide) (by decide) (by omega) (fun x156 ex156 => ?_)
        show TT _ _ _ _ _ _ _ [(3, .inl x156), (0, .inr (some a0)), (1, .inr (some a1)), (2, .inl a2)] _ _
        refine tt_goto (tgt := 2) (pc := 51) dX6_putKnownNotes_51 (by decide) ?_
        refine tt_loc [(0, .inr (some a0)), (1, .inr (some a1)), (2, .inl a2), (3, .inl x156)] (List.forall_mem_cons.mpr ⟨(.tail _ (.head _)), List.forall_mem_cons.mpr ⟨(.tail _ (.tail _ (.head _))), List.forall_mem_cons.mpr ⟨(.tail _ (.tail _ (.tail _ (.head _)))), List.forall_mem_cons.mpr ⟨(.head _), fun _ z => absurd z List.not_mem_nil⟩⟩⟩⟩) ?_
        exact ih2 hb hwb hfb x156 (by omega) (by omega) (by omega)
      refine tt_iload_n (pc := 2) dX6_putKnownNotes_2 (.tail _ (.tail _ (.tail _ (.head _)))) ?_
      refine tt_aload_n (pc := 3) dX6_putKnownNotes_3 (.head _) ?_
      refine tw_getr (pc := 4) dX6_putKnownNotes_4 flX6_50 hwb ta0 (by decide) rfl (fun f157 q158 ef157 gf157 tq158 => ?_)
      refine tw_alen (pc := 7) dX6_putKnownNotes_7 hwb tq158 rfl (by decide) (by omega) (fun x159 ex159 => ?_)
      refine tw_icmp (tgt := 54) (pc := 8) dX6_putKnownNotes_8 (by decide) (fun (c160 : x159.toInt ≤ x154.toInt) => ?_) (fun (c160 : ¬ (x159.toInt ≤ x154.toInt)) => ?_)
      · skip
        refine tt_stop ?_
        rw [hQ]
        exact Or.inl ⟨dX6_putKnownNotes_54, rfl, rfl, hwb, hfb, rfl⟩
      · skip
        refine tt_aload_n (pc := 11) dX6_putKnownNotes_11 (.tail _ (.head _)) ?_
        refine tw_getr (pc := 12) dX6_putKnownNotes_12 flX6_185 hwb ta1 (by decide) rfl (fun f161 q162 ef161 gf161 tq162 => ?_)
        refine tt_iload_n (pc := 15) dX6_putKnownNotes_15 (.tail _ (.tail _ (.tail _ (.head _)))) ?_
        refine tw_aldn (pc := 16) dX6_putKnownNotes_16 hwb tq162 rfl (by decide) (by omega) (by omega) (fun f163 o164 ef163 gf163 to164 => ?_)
        refine tt_astore (pc := 17) dX6_putKnownNotes_17 (by decide) ?_
        show TT _ _ _ _ _ _ _ [(4, .inr o164), (0, .inr (some a0)), (1, .inr (some a1)), (2, .inl a2), (3, .inl x154)] _ _
        refine tt_iload_n (pc := 19) dX6_putKnownNotes_19 (.tail _ (.tail _ (.tail _ (.tail _ (.head _))))) ?_
        refine tt_aload_n (pc := 20) dX6_putKnownNotes_20 (.tail _ (.tail _ (.head _))) ?_
        refine tw_geti (pc := 21) dX6_putKnownNotes_21 flX6_249 hwb ta1 (by decide) rfl (fun f165 x166 ef165 gf165 lx166 ux166 => ?_)
        refine tw_icmp (tgt := 48) (pc := 24) dX6_putKnownNotes_24 (by decide) (fun (c167 : x154.toInt = x166.toInt) => ?_) (fun (c167 : ¬ (x154.toInt = x166.toInt)) => ?_)
        · skip
          refine tt_loc [(0, .inr (some a0)), (1, .inr (some a1)), (2, .inl a2), (3, .inl x154)] (List.forall_mem_cons.mpr ⟨(.tail _ (.head _)), List.forall_mem_cons.mpr ⟨(.tail _ (.tail _ (.head _))), List.forall_mem_cons.mpr ⟨(.tail _ (.tail _ (.tail _ (.head _)))), List.forall_mem_cons.mpr ⟨(.tail _ (.tail _ (.tail _ (.tail _ (.head _))))), fun _ z => absurd z List.not_mem_nil⟩⟩⟩⟩) ?_
          exact B48 hb hwb hfb x154 (by omega) (by omega) (by omega)
        · skip
          refine tt_aload (pc := 27) dX6_putKnownNotes_27 (.head _) ?_
          refine tt_ifnull (tgt := 48) (pc := 29) dX6_putKnownNotes_29 (by decide) (fun z168 => ?_) (fun q169 z168 => ?_)
          · subst z168
            refine tt_loc [(0, .inr (some a0)), (1, .inr (some a1)), (2, .inl a2), (3, .inl x154)] (List.forall_mem_cons.mpr ⟨(.tail _ (.head _)), List.forall_mem_cons.mpr ⟨(.tail _ (.tail _ (.head _))), List.forall_mem_cons.mpr ⟨(.tail _ (.tail _ (.tail _ (.head _)))), List.forall_mem_cons.mpr ⟨(.tail _ (.tail _ (.tail _ (.tail _ (.head _))))), fun _ z => absurd z List.not_mem_nil⟩⟩⟩⟩) ?_
            exact B48 hb hwb hfb x154 (by omega) (by omega) (by omega)
          · have tq169 := to164 q169 z168
            subst z168
            refine tt_aload_n (pc := 32) dX6_putKnownNotes_32 (.tail _ (.head _)) ?_
            refine tt_aload_n (pc := 33) dX6_putKnownNotes_33 (.tail _ (.tail _ (.head _))) ?_
            refine tt_iload_n (pc := 34) dX6_putKnownNotes_34 (.tail _ (.tail _ (.tail _ (.head _)))) ?_
            refine tt_aload_n (pc := 35) dX6_putKnownNotes_35 (.tail _ (.head _)) ?_
            refine tw_getr (pc := 36) dX6_putKnownNotes_36 flX6_35 hwb ta0 (by decide) rfl (fun f170 q171 ef170 gf170 tq171 => ?_)
            refine tt_aload (pc := 39) dX6_putKnownNotes_39 (.head _) ?_
            refine tw_callV (kc := 0) (ks := 0) (mc := 0) (ms := 0) (as := [.inr (some q169)]) (st := [.inl a2, .inr (some a1), .inr (some a0)]) (pc := 41) hwb tq171 (by decide) dX6_putKnownNotes_41 lkX6_265 imX1_asNote seX1_asNote rfl rfl (by decide) (by decide) (Nat.le_of_ble_eq_true rfl) (g_X1_asNote hN2 hN8 hp0 hp64 hwb q171 tq171 q169 tq169) (fun rv h172 qh172 => ?_)
            obtain ⟨wh172, fh172, q173, rfl, tq173⟩ := qh172
            have hfh172 := hfb.tr fh172
            show TT _ _ _ _ _ _ _ _ [.inr (some q173), .inl a2, .inr (some a1), .inr (some a0)] _
            refine tw_callV (kc := 0) (ks := 0) (mc := 0) (ms := 0) (as := [.inr (some a1), .inl a2, .inr (some q173)]) (st := []) (pc := 44) wh172 ta0 (by decide) dX6_putKnownNotes_44 lkX6_276 imX6_put seX6_put rfl rfl (by decide) (by decide) (Nat.le_of_ble_eq_true rfl) (g_X6_put hN2 hN8 hp0 hp64 wh172 a0 ta0 a1 ta1 a2 (by omega) (by omega) q173 tq173) (fun rv h174 qh174 => ?_)
            obtain ⟨wh174, fh174, x175, rfl, lx175, ux175⟩ := qh174
            have hfh174 := hfh172.tr fh174
            show TT _ _ _ _ _ _ _ _ [.inl x175] _
            refine tt_pop (pc := 47) dX6_putKnownNotes_47 ?_
            refine tt_loc [(0, .inr (some a0)), (1, .inr (some a1)), (2, .inl a2), (3, .inl x154)] (List.forall_mem_cons.mpr ⟨(.tail _ (.head _)), List.forall_mem_cons.mpr ⟨(.tail _ (.tail _ (.head _))), List.forall_mem_cons.mpr ⟨(.tail _ (.tail _ (.tail _ (.head _)))), List.forall_mem_cons.mpr ⟨(.tail _ (.tail _ (.tail _ (.tail _ (.head _))))), fun _ z => absurd z List.not_mem_nil⟩⟩⟩⟩) ?_
            exact B48 h174 wh174 hfh174 x154 (by omega) (by omega) (by omega)
  refine tw_iconst (pc := 0) dX6_putKnownNotes_0 (by decide) (fun x176 ex176 => ?_)
  refine tt_istore_n (pc := 1) dX6_putKnownNotes_1 (by decide) ?_
  show TT _ _ _ _ _ _ _ [(3, .inl x176), (0, .inr (some a0)), (1, .inr (some a1)), (2, .inl a2)] _ _
  refine tt_loc [(0, .inr (some a0)), (1, .inr (some a1)), (2, .inl a2), (3, .inl x176)] (List.forall_mem_cons.mpr ⟨(.tail _ (.head _)), List.forall_mem_cons.mpr ⟨(.tail _ (.tail _ (.head _))), List.forall_mem_cons.mpr ⟨(.tail _ (.tail _ (.tail _ (.head _)))), List.forall_mem_cons.mpr ⟨(.head _), fun _ z => absurd z List.not_mem_nil⟩⟩⟩⟩) ?_
  exact B2 9 h hw hf x176 (by omega) (by omega) (by omega)
abbrev mX6_putMappings : tM := (RX6, cX6_putMappings, 4, 2, 45, false)
set_option maxHeartbeats 4000000 in
theorem g_X6_putMappings {l : Launch} {D : va_G} {N : Nat} {pk : Int} {τ : List Nat} (hN2 : 2 ≤ N) (hN8 : N ≤ 8) (hp0 : 0 ≤ pk) (hp64 : pk ≤ 64) {h : List tC} (hw : WT N pk τ h) (a0 : Nat) (ta0 : τ[a0]? = some 6) (a1 : Nat) (ta1 : τ[a1]? = some 4) (a2 : Int32) (la2 : 0 ≤ a2.toInt) (ua2 : a2.toInt ≤ 11) : TMc l D yX6_putMappings cX6_putMappings 4 none 2 45 0 0 [.inr (some a0), .inr (some a1), .inl a2] h (fun rv h' => WT N pk τ h' ∧ Fr PX τ h h' ∧ rv = none) := by
  refine tmc_of false rfl (by decide) (Nat.le_of_ble_eq_true rfl) ?_
  suffices HQ : ∀ Q0, Q0 = tRt cX6_putMappings none (fun rv h' => WT N pk τ h' ∧ Fr PX τ h h' ∧ rv = none) → TT l D mX6_putMappings Q0 0 0 0 [(0, .inr (some a0)), (1, .inr (some a1)), (2, .inl a2)] [] h from HQ _ rfl
  intro Q0 hQ
  have hf : Fr PX τ h h := Fr.rf
  have B2 : ∀ (n2 : Nat) (hb : List tC) (hwb : WT N pk τ hb) (hfb : Fr PX τ h hb) (x154 : Int32) (lx154 : 0 ≤ x154.toInt) (ux154 : x154.toInt ≤ 8), 8 - x154.toInt < n2 → TT l D mX6_putMappings Q0 0 0 2 [(0, .inr (some a0)), (1, .inr (some a1)), (2, .inl a2), (3, .inl x154)] [] hb := by
    intro n2
    induction n2 with
    | zero =>
      intro hb hwb hfb x154 lx154 ux154 hn2
      exfalso
      omega
    | succ n2 ih2 =>
      intro hb hwb hfb x154 lx154 ux154 hn2
      have B46 : ∀ (hb : List tC) (hwb : WT N pk τ hb) (hfb : Fr PX τ h hb) (x155 : Int32) (lx155 : 0 ≤ x155.toInt) (ux155 : x155.toInt ≤ 7) (hn2 : 8 - x155.toInt < ((n2 + 1 : Nat) : Int)), TT l D mX6_putMappings Q0 0 0 46 [(0, .inr (some a0)), (1, .inr (some a1)), (2, .inl a2), (3, .inl x155)] [] hb := by
        intro hb hwb hfb x155 lx155 ux155 hn2
        refine tw_iinc (pc := 46) dX6_putMappings_46 (.tail _ (.tail _ (.tail _ (.head _)))) (by decide) (by decide) (by omega) (fun x156 ex156 => ?_)
        show TT _ _ _ _ _ _ _ [(3, .inl x156), (0, .inr (some a0)), (1, .inr (some a1)), (2, .inl a2)] _ _
        refine tt_goto (tgt := 2) (pc := 49) dX6_putMappings_49 (by decide) ?_
        refine tt_loc [(0, .inr (some a0)), (1, .inr (some a1)), (2, .inl a2), (3, .inl x156)] (List.forall_mem_cons.mpr ⟨(.tail _ (.head _)), List.forall_mem_cons.mpr ⟨(.tail _ (.tail _ (.head _))), List.forall_mem_cons.mpr ⟨(.tail _ (.tail _ (.tail _ (.head _)))), List.forall_mem_cons.mpr ⟨(.head _), fun _ z => absurd z List.not_mem_nil⟩⟩⟩⟩) ?_
        exact ih2 hb hwb hfb x156 (by omega) (by omega) (by omega)
      refine tt_iload_n (pc := 2) dX6_putMappings_2 (.tail _ (.tail _ (.tail _ (.head _)))) ?_
      refine tw_bipush (pc := 3) dX6_putMappings_3 (by decide) (fun x157 ex157 => ?_)
      refine tw_icmp (tgt := 52) (pc := 5) dX6_putMappings_5 (by decide) (fun (c158 : x157.toInt ≤ x154.toInt) => ?_) (fun (c158 : ¬ (x157.toInt ≤ x154.toInt)) => ?_)
      · skip
        refine tt_stop ?_
        rw [hQ]
        exact Or.inl ⟨dX6_putMappings_52, rfl, rfl, hwb, hfb, rfl⟩
      · skip
        refine tt_aload_n (pc := 8) dX6_putMappings_8 (.tail _ (.head _)) ?_
        refine tw_getr (pc := 9) dX6_putMappings_9 flX6_207 hwb ta1 (by decide) rfl (fun f159 q160 ef159 gf159 tq160 => ?_)
        refine tt_iload_n (pc := 12) dX6_putMappings_12 (.tail _ (.tail _ (.tail _ (.head _)))) ?_
        refine tw_ild (pc := 13) dX6_putMappings_13 hwb tq160 rfl (by omega) (by omega) (fun f162 x161 ef162 gf162 lx161 ux161 => ?_)
        refine tw_iconst (pc := 14) dX6_putMappings_14 (by decide) (fun x163 ex163 => ?_)
        refine tw_icmp (tgt := 46) (pc := 15) dX6_putMappings_15 (by decide) (fun (c164 : x161.toInt = x163.toInt) => ?_) (fun (c164 : ¬ (x161.toInt = x163.toInt)) => ?_)
        · skip
          refine tt_loc [(0, .inr (some a0)), (1, .inr (some a1)), (2, .inl a2), (3, .inl x154)] (List.forall_mem_cons.mpr ⟨(.head _), List.forall_mem_cons.mpr ⟨(.tail _ (.head _)), List.forall_mem_cons.mpr ⟨(.tail _ (.tail _ (.head _))), List.forall_mem_cons.mpr ⟨(.tail _ (.tail _ (.tail _ (.head _)))), fun _ z => absurd z List.not_mem_nil⟩⟩⟩⟩) ?_
          exact B46 hb hwb hfb x154 (by omega) (by omega) (by omega)
        · skip
          refine tt_aload_n (pc := 18) dX6_putMappings_18 (.head _) ?_
          refine tt_aload_n (pc := 19) dX6_putMappings_19 (.tail _ (.head _)) ?_
          refine tt_iload_n (pc := 20) dX6_putMappings_20 (.tail _ (.tail _ (.head _))) ?_
          refine tt_aload_n (pc := 21) dX6_putMappings_21 (.head _) ?_
          refine tw_getr (pc := 22) dX6_putMappings_22 flX6_35 hwb ta0 (by decide) rfl (fun f165 q166 ef165 gf165 tq166 => ?_)
          refine tw_iconst (pc := 25) dX6_putMappings_25 (by decide) (fun x167 ex167 => ?_)
          refine tt_iload_n (pc := 26) dX6_putMappings_26 (.tail _ (.tail _ (.tail _ (.head _)))) ?_
          refine tt_aload_n (pc := 27) dX6_putMappings_27 (.tail _ (.head _)) ?_
          refine tt_get (pc := 28) dX6_putMappings_28 flX6_207 ef159 gf159 ?_
          refine tt_iload_n (pc := 31) dX6_putMappings_31 (.tail _ (.tail _ (.tail _ (.head _)))) ?_
          refine tt_iald (pc := 32) dX6_putMappings_32 ef162 (i_nn (by omega)) gf162 ?_
          refine tt_aload_n (pc := 33) dX6_putMappings_33 (.tail _ (.head _)) ?_
          refine tw_getr (pc := 34) dX6_putMappings_34 flX6_210 hwb ta1 (by decide) rfl (fun f168 q169 ef168 gf168 tq169 => ?_)
          refine tt_iload_n (pc := 37) dX6_putMappings_37 (.tail _ (.tail _ (.tail _ (.head _)))) ?_
          refine tw_ild (pc := 38) dX6_putMappings_38 hwb tq169 rfl (by omega) (by omega) (fun f171 x170 ef171 gf171 lx170 ux170 => ?_)
          refine tw_callV (kc := 0) (ks := 0) (mc := 0) (ms := 0) (as := [.inl x167, .inl x154, .inl x161, .inl x170]) (st := [.inl a2, .inr (some a1), .inr (some a0)]) (pc := 39) hwb tq166 (by decide) dX6_putMappings_39 lkX6_280 imX1_as seX1_as rfl rfl (by decide) (by decide) (Nat.le_of_ble_eq_true rfl) (g_X1_asA hN2 hN8 hp0 hp64 hwb q166 tq166 x167 (by omega) (by omega) x154 (by omega) (by omega) x161 x170) (fun rv h172 qh172 => ?_)
          obtain ⟨wh172, fh172, q173, rfl, tq173⟩ := qh172
          have hfh172 := hfb.tr fh172
          show TT _ _ _ _ _ _ _ _ [.inr (some q173), .inl a2, .inr (some a1), .inr (some a0)] _
          refine tw_callV (kc := 0) (ks := 0) (mc := 0) (ms := 0) (as := [.inr (some a1), .inl a2, .inr (some q173)]) (st := []) (pc := 42) wh172 ta0 (by decide) dX6_putMappings_42 lkX6_276 imX6_put seX6_put rfl rfl (by decide) (by decide) (Nat.le_of_ble_eq_true rfl) (g_X6_put hN2 hN8 hp0 hp64 wh172 a0 ta0 a1 ta1 a2 (by omega) (by omega) q173 tq173) (fun rv h174 qh174 => ?_)
          obtain ⟨wh174, fh174, x175, rfl, lx175, ux175⟩ := qh174
          have hfh174 := hfh172.tr fh174
          show TT _ _ _ _ _ _ _ _ [.inl x175] _
          refine tt_pop (pc := 45) dX6_putMappings_45 ?_
          refine tt_loc [(0, .inr (some a0)), (1, .inr (some a1)), (2, .inl a2), (3, .inl x154)] (List.forall_mem_cons.mpr ⟨(.head _), List.forall_mem_cons.mpr ⟨(.tail _ (.head _)), List.forall_mem_cons.mpr ⟨(.tail _ (.tail _ (.head _))), List.forall_mem_cons.mpr ⟨(.tail _ (.tail _ (.tail _ (.head _)))), fun _ z => absurd z List.not_mem_nil⟩⟩⟩⟩) ?_
          exact B46 h174 wh174 hfh174 x154 (by omega) (by omega) (by omega)
  refine tw_iconst (pc := 0) dX6_putMappings_0 (by decide) (fun x176 ex176 => ?_)
  refine tt_istore_n (pc := 1) dX6_putMappings_1 (by decide) ?_
  show TT _ _ _ _ _ _ _ [(3, .inl x176), (0, .inr (some a0)), (1, .inr (some a1)), (2, .inl a2)] _ _
  refine tt_loc [(0, .inr (some a0)), (1, .inr (some a1)), (2, .inl a2), (3, .inl x176)] (List.forall_mem_cons.mpr ⟨(.tail _ (.head _)), List.forall_mem_cons.mpr ⟨(.tail _ (.tail _ (.head _))), List.forall_mem_cons.mpr ⟨(.tail _ (.tail _ (.tail _ (.head _)))), List.forall_mem_cons.mpr ⟨(.head _), fun _ z => absurd z List.not_mem_nil⟩⟩⟩⟩) ?_
  exact B2 9 h hw hf x176 (by omega) (by omega) (by omega)
abbrev mX6_firstThatWaits : tM := (RX6, cX6_firstThatWaits, 3, 0, 0, false)
set_option maxHeartbeats 4000000 in
theorem g_X6_firstThatWaits {l : Launch} {D : va_G} {N : Nat} {pk : Int} {τ : List Nat} (hN2 : 2 ≤ N) (hN8 : N ≤ 8) (hp0 : 0 ≤ pk) (hp64 : pk ≤ 64) {h : List tC} (hw : WT N pk τ h) (a0 : Nat) (ta0 : τ[a0]? = some 6) : TMc l D yX6_firstThatWaits cX6_firstThatWaits 3 (some .int) 0 0 0 0 [.inr (some a0)] h (fun rv h' => h = h' ∧ ∃ x : Int32, rv = some (.inl x) ∧ -1 ≤ x.toInt ∧ x.toInt ≤ 23) := by
  refine tmc_of false rfl (by decide) (Nat.le_of_ble_eq_true rfl) ?_
  suffices HQ : ∀ Q0, Q0 = tRt cX6_firstThatWaits (some .int) (fun rv h' => h = h' ∧ ∃ x : Int32, rv = some (.inl x) ∧ -1 ≤ x.toInt ∧ x.toInt ≤ 23) → TT l D mX6_firstThatWaits Q0 0 0 0 [(0, .inr (some a0))] [] h from HQ _ rfl
  intro Q0 hQ
  have B2 : ∀ (n2 : Nat) (x237 : Int32) (lx237 : 0 ≤ x237.toInt) (ux237 : x237.toInt ≤ 12), 12 - x237.toInt < n2 → TT l D mX6_firstThatWaits Q0 0 0 2 [(0, .inr (some a0)), (1, .inl x237)] [] h := by
    intro n2
    induction n2 with
    | zero =>
      intro x237 lx237 ux237 hn2
      exfalso
      omega
    | succ n2 ih2 =>
      intro x237 lx237 ux237 hn2
      have B10 : ∀ (n10 : Nat) (x238 : Int32) (lx238 : 0 ≤ x238.toInt) (ux238 : x238.toInt ≤ 11) (x239 : Int32) (lx239 : 0 ≤ x239.toInt) (ux239 : x239.toInt ≤ 2) (hn2 : 12 - x238.toInt < ((n2 + 1 : Nat) : Int)), 2 - x239.toInt < n10 → TT l D mX6_firstThatWaits Q0 0 0 10 [(0, .inr (some a0)), (1, .inl x238), (2, .inl x239)] [] h := by
        intro n10
        induction n10 with
        | zero =>
          intro x238 lx238 ux238 x239 lx239 ux239 hn2 hn10
          exfalso
          omega
        | succ n10 ih10 =>
          intro x238 lx238 ux238 x239 lx239 ux239 hn2 hn10
          refine tt_iload_n (pc := 10) dX6_firstThatWaits_10 (.tail _ (.tail _ (.head _))) ?_
          refine tw_iconst (pc := 11) dX6_firstThatWaits_11 (by decide) (fun x240 ex240 => ?_)
          refine tw_icmp (tgt := 44) (pc := 12) dX6_firstThatWaits_12 (by decide) (fun (c241 : x240.toInt ≤ x239.toInt) => ?_) (fun (c241 : ¬ (x240.toInt ≤ x239.toInt)) => ?_)
          · skip
            refine tw_iinc (pc := 44) dX6_firstThatWaits_44 (.tail _ (.head _)) (by decide) (by decide) (by omega) (fun x242 ex242 => ?_)
            show TT _ _ _ _ _ _ _ [(1, .inl x242), (0, .inr (some a0)), (2, .inl x239)] _ _
            refine tt_goto (tgt := 2) (pc := 47) dX6_firstThatWaits_47 (by decide) ?_
            refine tt_loc [(0, .inr (some a0)), (1, .inl x242)] (List.forall_mem_cons.mpr ⟨(.tail _ (.head _)), List.forall_mem_cons.mpr ⟨(.head _), fun _ z => absurd z List.not_mem_nil⟩⟩) ?_
            exact ih2 x242 (by omega) (by omega) (by omega)
          · skip
            refine tt_aload_n (pc := 15) dX6_firstThatWaits_15 (.head _) ?_
            refine tw_getr (pc := 16) dX6_firstThatWaits_16 flX6_11 hw ta0 (by decide) rfl (fun f243 q244 ef243 gf243 tq244 => ?_)
            refine tt_iload_n (pc := 19) dX6_firstThatWaits_19 (.tail _ (.head _)) ?_
            refine tw_ald (pc := 20) dX6_firstThatWaits_20 hw tq244 rfl (by decide) (by omega) (by omega) (fun f245 q246 ef245 gf245 tq246 => ?_)
            refine tw_getr (pc := 21) dX6_firstThatWaits_21 flX6_131 hw tq246 (by decide) rfl (fun f247 q248 ef247 gf247 tq248 => ?_)
            refine tt_iload_n (pc := 24) dX6_firstThatWaits_24 (.tail _ (.tail _ (.head _))) ?_
            refine tw_ald (pc := 25) dX6_firstThatWaits_25 hw tq248 rfl (by decide) (by omega) (by omega) (fun f249 q250 ef249 gf249 tq250 => ?_)
            refine tw_geti (pc := 26) dX6_firstThatWaits_26 flX6_170 hw tq250 (by decide) rfl (fun f251 x252 ef251 gf251 lx252 ux252 => ?_)
            refine tw_if (tgt := 38) (pc := 29) dX6_firstThatWaits_29 (by decide) (fun (c253 : x252.toInt ≤ 0) => ?_) (fun (c253 : ¬ (x252.toInt ≤ 0)) => ?_)
            · skip
              refine tw_iinc (pc := 38) dX6_firstThatWaits_38 (.tail _ (.tail _ (.head _))) (by decide) (by decide) (by omega) (fun x254 ex254 => ?_)
              show TT _ _ _ _ _ _ _ [(2, .inl x254), (0, .inr (some a0)), (1, .inl x238)] _ _
              refine tt_goto (tgt := 10) (pc := 41) dX6_firstThatWaits_41 (by decide) ?_
              refine tt_loc [(0, .inr (some a0)), (1, .inl x238), (2, .inl x254)] (List.forall_mem_cons.mpr ⟨(.tail _ (.head _)), List.forall_mem_cons.mpr ⟨(.tail _ (.tail _ (.head _))), List.forall_mem_cons.mpr ⟨(.head _), fun _ z => absurd z List.not_mem_nil⟩⟩⟩) ?_
              exact ih10 x238 (by omega) (by omega) x254 (by omega) (by omega) (by omega) (by omega)
            · skip
              refine tt_iload_n (pc := 32) dX6_firstThatWaits_32 (.tail _ (.head _)) ?_
              refine tw_iconst (pc := 33) dX6_firstThatWaits_33 (by decide) (fun x255 ex255 => ?_)
              refine tw_imul2 (c := 2) (pc := 34) dX6_firstThatWaits_34 (by omega) (by omega) (fun x256 ex256 => ?_)
              refine tt_iload_n (pc := 35) dX6_firstThatWaits_35 (.tail _ (.tail _ (.head _))) ?_
              refine tw_iadd (pc := 36) dX6_firstThatWaits_36 (by omega) (fun x257 ex257 => ?_)
              refine tt_stop ?_
              rw [hQ]
              exact Or.inr (Or.inl ⟨x257, dX6_firstThatWaits_37, rfl, Or.inl rfl, rfl, x257, rfl, by omega, by omega⟩)
      refine tt_iload_n (pc := 2) dX6_firstThatWaits_2 (.tail _ (.head _)) ?_
      refine tw_bipush (pc := 3) dX6_firstThatWaits_3 (by decide) (fun x258 ex258 => ?_)
      refine tw_icmp (tgt := 50) (pc := 5) dX6_firstThatWaits_5 (by decide) (fun (c259 : x258.toInt ≤ x237.toInt) => ?_) (fun (c259 : ¬ (x258.toInt ≤ x237.toInt)) => ?_)
      · skip
        refine tw_iconst (pc := 50) dX6_firstThatWaits_50 (by decide) (fun x260 ex260 => ?_)
        refine tt_stop ?_
        rw [hQ]
        exact Or.inr (Or.inl ⟨x260, dX6_firstThatWaits_51, rfl, Or.inl rfl, rfl, x260, rfl, by omega, by omega⟩)
      · skip
        refine tw_iconst (pc := 8) dX6_firstThatWaits_8 (by decide) (fun x261 ex261 => ?_)
        refine tt_istore_n (pc := 9) dX6_firstThatWaits_9 (by decide) ?_
        show TT _ _ _ _ _ _ _ [(2, .inl x261), (0, .inr (some a0)), (1, .inl x237)] _ _
        refine tt_loc [(0, .inr (some a0)), (1, .inl x237), (2, .inl x261)] (List.forall_mem_cons.mpr ⟨(.tail _ (.head _)), List.forall_mem_cons.mpr ⟨(.tail _ (.tail _ (.head _))), List.forall_mem_cons.mpr ⟨(.head _), fun _ z => absurd z List.not_mem_nil⟩⟩⟩) ?_
        exact B10 3 x237 (by omega) (by omega) x261 (by omega) (by omega) (by omega) (by omega)
  refine tw_iconst (pc := 0) dX6_firstThatWaits_0 (by decide) (fun x262 ex262 => ?_)
  refine tt_istore_n (pc := 1) dX6_firstThatWaits_1 (by decide) ?_
  show TT _ _ _ _ _ _ _ [(1, .inl x262), (0, .inr (some a0))] _ _
  refine tt_loc [(0, .inr (some a0)), (1, .inl x262)] (List.forall_mem_cons.mpr ⟨(.tail _ (.head _)), List.forall_mem_cons.mpr ⟨(.head _), fun _ z => absurd z List.not_mem_nil⟩⟩) ?_
  exact B2 13 x262 (by omega) (by omega) (by omega)
