abbrev mX1_asNote : tM := (RX1, cX1_asNote, 2, 1, 24, false)
set_option maxHeartbeats 4000000 in
theorem g_X1_asNote {l : Launch} {D : va_G} {N : Nat} {pk : Int} {τ : List Nat} (hN2 : 2 ≤ N) (hN8 : N ≤ 8) (hp0 : 0 ≤ pk) (hp64 : pk ≤ 64) {h : List tC} (hw : WT N pk τ h) (a0 : Nat) (ta0 : τ[a0]? = some 1) (a1 : Nat) (ta1 : τ[a1]? = some 5) : TMc l D yX1_asNote cX1_asNote 2 (some (.object "LabelNet$Message")) 1 24 0 0 [.inr (some a0), .inr (some a1)] h (fun rv h' => WT N pk τ h' ∧ Fr PX τ h h' ∧ ∃ q : Nat, rv = some (.inr (some q)) ∧ τ[q]? = some 1) := by
  refine tmc_of false rfl (by decide) (Nat.le_of_ble_eq_true rfl) ?_
  suffices HQ : ∀ Q0, Q0 = tRt cX1_asNote (some (.object "LabelNet$Message")) (fun rv h' => WT N pk τ h' ∧ Fr PX τ h h' ∧ ∃ q : Nat, rv = some (.inr (some q)) ∧ τ[q]? = some 1) → TT l D mX1_asNote Q0 0 0 0 [(0, .inr (some a0)), (1, .inr (some a1))] [] h from HQ _ rfl
  intro Q0 hQ
  have hf : Fr PX τ h h := Fr.rf
  refine tt_aload_n (pc := 0) dX1_asNote_0 (.head _) ?_
  refine tw_iconst (pc := 1) dX1_asNote_1 (by decide) (fun x11 ex11 => ?_)
  refine tt_aload_n (pc := 2) dX1_asNote_2 (.tail _ (.head _)) ?_
  refine tw_geti (pc := 3) dX1_asNote_3 flX1_28 hw ta1 (by decide) rfl (fun f12 x13 ef12 gf12 lx13 ux13 => ?_)
  refine tt_aload_n (pc := 6) dX1_asNote_6 (.tail _ (.head _)) ?_
  refine tw_geti (pc := 7) dX1_asNote_7 flX1_33 hw ta1 (by decide) rfl (fun f14 x15 ef14 gf14 lx15 ux15 => ?_)
  refine tw_iconst (pc := 10) dX1_asNote_10 (by decide) (fun x16 ex16 => ?_)
  refine tw_callV (kc := 0) (ks := 0) (mc := 0) (ms := 0) (as := [.inl x11, .inl x13, .inl x15, .inl x16]) (st := []) (pc := 11) hw ta0 (by decide) dX1_asNote_11 lkX1_36 imX1_as seX1_as rfl rfl (by decide) (by decide) (Nat.le_of_ble_eq_true rfl) (g_X1_asA hN2 hN8 hp0 hp64 hw a0 ta0 x11 (by omega) (by omega) x13 (by omega) (by omega) x15 x16) (fun rv h17 qh17 => ?_)
  obtain ⟨wh17, fh17, q18, rfl, tq18⟩ := qh17
  have hfh17 := hf.tr fh17
  show TT _ _ _ _ _ _ _ _ [.inr (some q18)] _
  refine tt_pop (pc := 14) dX1_asNote_14 ?_
  refine tt_aload_n (pc := 15) dX1_asNote_15 (.head _) ?_
  refine tt_aload_n (pc := 16) dX1_asNote_16 (.tail _ (.head _)) ?_
  refine tw_put (P := PX) (pc := 17) dX1_asNote_17 flX1_24 wh17 ta0 (by decide) rfl ta1 rfl (by decide) (by decide) (fun f19 h20 eh20 gh20 kh20 wh20 fh20 => ?_)
  have hfh20 := hfh17.tr fh20
  refine tt_aload_n (pc := 20) dX1_asNote_20 (.head _) ?_
  refine tt_stop ?_
  rw [hQ]
  exact Or.inr (Or.inr ⟨_, _, dX1_asNote_21, rfl, rfl, wh20, hfh20, a0, rfl, ta0⟩)
abbrev mX6_packetsUnderWay : tM := (RX6, cX6_packetsUnderWay, 3, 0, 0, false)
set_option maxHeartbeats 4000000 in
theorem g_X6_packetsUnderWay {l : Launch} {D : va_G} {N : Nat} {pk : Int} {τ : List Nat} (hN2 : 2 ≤ N) (hN8 : N ≤ 8) (hp0 : 0 ≤ pk) (hp64 : pk ≤ 64) {h : List tC} (hw : WT N pk τ h) (a0 : Nat) (ta0 : τ[a0]? = some 6) : TMc l D yX6_packetsUnderWay cX6_packetsUnderWay 3 (some .int) 0 0 0 0 [.inr (some a0)] h (fun rv h' => h = h' ∧ ∃ x : Int32, rv = some (.inl x) ∧ -2147483648 ≤ x.toInt ∧ x.toInt ≤ 2147483647) := by
  refine tmc_of false rfl (by decide) (Nat.le_of_ble_eq_true rfl) ?_
  suffices HQ : ∀ Q0, Q0 = tRt cX6_packetsUnderWay (some .int) (fun rv h' => h = h' ∧ ∃ x : Int32, rv = some (.inl x) ∧ -2147483648 ≤ x.toInt ∧ x.toInt ≤ 2147483647) → TT l D mX6_packetsUnderWay Q0 0 0 0 [(0, .inr (some a0))] [] h from HQ _ rfl
  intro Q0 hQ
  have B4 : ∀ (n4 : Nat) (q503 : Nat) (tq503 : τ[q503]? = some 6) (x504 : Int32) (x505 : Int32) (lx505 : 0 ≤ x505.toInt) (ux505 : x505.toInt ≤ 64), 64 - x505.toInt < n4 → TT l D mX6_packetsUnderWay Q0 0 0 4 [(0, .inr (some q503)), (1, .inl x504), (2, .inl x505)] [] h := by
    intro n4
    induction n4 with
    | zero =>
      intro q503 tq503 x504 x505 lx505 ux505 hn4
      exfalso
      omega
    | succ n4 ih4 =>
      intro q503 tq503 x504 x505 lx505 ux505 hn4
      have bx504 := i_ty x504
      have B27 : ∀ (q506 : Nat) (tq506 : τ[q506]? = some 6) (x507 : Int32) (x508 : Int32) (lx508 : 0 ≤ x508.toInt) (ux508 : x508.toInt ≤ pk - 1) (hn4 : 64 - x508.toInt < ((n4 + 1 : Nat) : Int)), TT l D mX6_packetsUnderWay Q0 0 0 27 [(0, .inr (some q506)), (1, .inl x507), (2, .inl x508)] [] h := by
        intro q506 tq506 x507 x508 lx508 ux508 hn4
        have bx507 := i_ty x507
        refine tw_iinc (pc := 27) dX6_packetsUnderWay_27 (.tail _ (.tail _ (.head _))) (by decide) (by decide) (by omega) (fun x509 ex509 => ?_)
        show TT _ _ _ _ _ _ _ [(2, .inl x509), (0, .inr (some q506)), (1, .inl x507)] _ _
        refine tt_goto (tgt := 4) (pc := 30) dX6_packetsUnderWay_30 (by decide) ?_
        refine tt_loc [(0, .inr (some q506)), (1, .inl x507), (2, .inl x509)] (List.forall_mem_cons.mpr ⟨(.tail _ (.head _)), List.forall_mem_cons.mpr ⟨(.tail _ (.tail _ (.head _))), List.forall_mem_cons.mpr ⟨(.head _), fun _ z => absurd z List.not_mem_nil⟩⟩⟩) ?_
        exact ih4 q506 tq506 x507 x509 (by omega) (by omega) (by omega)
      refine tt_iload_n (pc := 4) dX6_packetsUnderWay_4 (.tail _ (.tail _ (.head _))) ?_
      refine tt_aload_n (pc := 5) dX6_packetsUnderWay_5 (.head _) ?_
      refine tw_geti (pc := 6) dX6_packetsUnderWay_6 flX6_25 hw tq503 (by decide) rfl (fun f510 x511 ef510 gf510 lx511 ux511 => ?_)
      refine tw_icmp (tgt := 33) (pc := 9) dX6_packetsUnderWay_9 (by decide) (fun (c512 : x511.toInt ≤ x505.toInt) => ?_) (fun (c512 : ¬ (x511.toInt ≤ x505.toInt)) => ?_)
      · skip
        refine tt_iload_n (pc := 33) dX6_packetsUnderWay_33 (.tail _ (.head _)) ?_
        refine tt_stop ?_
        rw [hQ]
        exact Or.inr (Or.inl ⟨x504, dX6_packetsUnderWay_34, rfl, Or.inl rfl, rfl, x504, rfl, by omega, by omega⟩)
      · skip
        refine tt_aload_n (pc := 12) dX6_packetsUnderWay_12 (.head _) ?_
        refine tw_getr (pc := 13) dX6_packetsUnderWay_13 flX6_21 hw tq503 (by decide) rfl (fun f513 q514 ef513 gf513 tq514 => ?_)
        refine tt_iload_n (pc := 16) dX6_packetsUnderWay_16 (.tail _ (.tail _ (.head _))) ?_
        refine tw_aldp (pc := 17) dX6_packetsUnderWay_17 hw tq514 (by omega) (by omega) (by omega) (fun f515 q516 ef515 gf515 tq516 => ?_)
        refine tw_geti (pc := 18) dX6_packetsUnderWay_18 flX6_155 hw tq516 (by decide) rfl (fun f517 x518 ef517 gf517 lx518 ux518 => ?_)
        refine tw_if (tgt := 27) (pc := 21) dX6_packetsUnderWay_21 (by decide) (fun (c519 : x518.toInt ≠ 0) => ?_) (fun (c519 : ¬ (x518.toInt ≠ 0)) => ?_)
        · skip
          refine tt_loc [(0, .inr (some q503)), (1, .inl x504), (2, .inl x505)] (List.forall_mem_cons.mpr ⟨(.head _), List.forall_mem_cons.mpr ⟨(.tail _ (.head _)), List.forall_mem_cons.mpr ⟨(.tail _ (.tail _ (.head _))), fun _ z => absurd z List.not_mem_nil⟩⟩⟩) ?_
          exact B27 q503 tq503 x504 x505 (by omega) (by omega) (by omega)
        · skip
          refine tw_iincA (pc := 24) dX6_packetsUnderWay_24 (.tail _ (.head _)) (by decide) (fun x520 => ?_)
          show TT _ _ _ _ _ _ _ [(1, .inl x520), (0, .inr (some q503)), (2, .inl x505)] _ _
          have bx520 := i_ty x520
          refine tt_loc [(0, .inr (some q503)), (1, .inl x520), (2, .inl x505)] (List.forall_mem_cons.mpr ⟨(.tail _ (.head _)), List.forall_mem_cons.mpr ⟨(.head _), List.forall_mem_cons.mpr ⟨(.tail _ (.tail _ (.head _))), fun _ z => absurd z List.not_mem_nil⟩⟩⟩) ?_
          exact B27 q503 tq503 x520 x505 (by omega) (by omega) (by omega)
  refine tw_iconst (pc := 0) dX6_packetsUnderWay_0 (by decide) (fun x521 ex521 => ?_)
  refine tt_istore_n (pc := 1) dX6_packetsUnderWay_1 (by decide) ?_
  show TT _ _ _ _ _ _ _ [(1, .inl x521), (0, .inr (some a0))] _ _
  refine tw_iconst (pc := 2) dX6_packetsUnderWay_2 (by decide) (fun x522 ex522 => ?_)
  refine tt_istore_n (pc := 3) dX6_packetsUnderWay_3 (by decide) ?_
  show TT _ _ _ _ _ _ _ [(2, .inl x522), (1, .inl x521), (0, .inr (some a0))] _ _
  refine tt_loc [(0, .inr (some a0)), (1, .inl x521), (2, .inl x522)] (List.forall_mem_cons.mpr ⟨(.tail _ (.tail _ (.head _))), List.forall_mem_cons.mpr ⟨(.tail _ (.head _)), List.forall_mem_cons.mpr ⟨(.head _), fun _ z => absurd z List.not_mem_nil⟩⟩⟩) ?_
  exact B4 65 a0 ta0 x521 x522 (by omega) (by omega) (by omega)
abbrev mX6_linksUp : tM := (RX6, cX6_linksUp, 3, 0, 0, false)
set_option maxHeartbeats 4000000 in
theorem g_X6_linksUp {l : Launch} {D : va_G} {N : Nat} {pk : Int} {τ : List Nat} (hN2 : 2 ≤ N) (hN8 : N ≤ 8) (hp0 : 0 ≤ pk) (hp64 : pk ≤ 64) {h : List tC} (hw : WT N pk τ h) (a0 : Nat) (ta0 : τ[a0]? = some 6) : TMc l D yX6_linksUp cX6_linksUp 3 (some .int) 0 0 0 0 [.inr (some a0)] h (fun rv h' => h = h' ∧ ∃ x : Int32, rv = some (.inl x) ∧ -2147483648 ≤ x.toInt ∧ x.toInt ≤ 2147483647) := by
  refine tmc_of false rfl (by decide) (Nat.le_of_ble_eq_true rfl) ?_
  suffices HQ : ∀ Q0, Q0 = tRt cX6_linksUp (some .int) (fun rv h' => h = h' ∧ ∃ x : Int32, rv = some (.inl x) ∧ -2147483648 ≤ x.toInt ∧ x.toInt ≤ 2147483647) → TT l D mX6_linksUp Q0 0 0 0 [(0, .inr (some a0))] [] h from HQ _ rfl
  intro Q0 hQ
  have B4 : ∀ (n4 : Nat) (q475 : Nat) (tq475 : τ[q475]? = some 6) (x476 : Int32) (x477 : Int32) (lx477 : 0 ≤ x477.toInt) (ux477 : x477.toInt ≤ 12), 12 - x477.toInt < n4 → TT l D mX6_linksUp Q0 0 0 4 [(0, .inr (some q475)), (1, .inl x476), (2, .inl x477)] [] h := by
    intro n4
    induction n4 with
    | zero =>
      intro q475 tq475 x476 x477 lx477 ux477 hn4
      exfalso
      omega
    | succ n4 ih4 =>
      intro q475 tq475 x476 x477 lx477 ux477 hn4
      have bx476 := i_ty x476
      have B25 : ∀ (q478 : Nat) (tq478 : τ[q478]? = some 6) (x479 : Int32) (x480 : Int32) (lx480 : 0 ≤ x480.toInt) (ux480 : x480.toInt ≤ 11) (hn4 : 12 - x480.toInt < ((n4 + 1 : Nat) : Int)), TT l D mX6_linksUp Q0 0 0 25 [(0, .inr (some q478)), (1, .inl x479), (2, .inl x480)] [] h := by
        intro q478 tq478 x479 x480 lx480 ux480 hn4
        have bx479 := i_ty x479
        refine tw_iinc (pc := 25) dX6_linksUp_25 (.tail _ (.tail _ (.head _))) (by decide) (by decide) (by omega) (fun x481 ex481 => ?_)
        show TT _ _ _ _ _ _ _ [(2, .inl x481), (0, .inr (some q478)), (1, .inl x479)] _ _
        refine tt_goto (tgt := 4) (pc := 28) dX6_linksUp_28 (by decide) ?_
        refine tt_loc [(0, .inr (some q478)), (1, .inl x479), (2, .inl x481)] (List.forall_mem_cons.mpr ⟨(.tail _ (.head _)), List.forall_mem_cons.mpr ⟨(.tail _ (.tail _ (.head _))), List.forall_mem_cons.mpr ⟨(.head _), fun _ z => absurd z List.not_mem_nil⟩⟩⟩) ?_
        exact ih4 q478 tq478 x479 x481 (by omega) (by omega) (by omega)
      refine tt_iload_n (pc := 4) dX6_linksUp_4 (.tail _ (.tail _ (.head _))) ?_
      refine tw_bipush (pc := 5) dX6_linksUp_5 (by decide) (fun x482 ex482 => ?_)
      refine tw_icmp (tgt := 31) (pc := 7) dX6_linksUp_7 (by decide) (fun (c483 : x482.toInt ≤ x477.toInt) => ?_) (fun (c483 : ¬ (x482.toInt ≤ x477.toInt)) => ?_)
      · skip
        refine tt_iload_n (pc := 31) dX6_linksUp_31 (.tail _ (.head _)) ?_
        refine tt_stop ?_
        rw [hQ]
        exact Or.inr (Or.inl ⟨x476, dX6_linksUp_32, rfl, Or.inl rfl, rfl, x476, rfl, by omega, by omega⟩)
      · skip
        refine tt_aload_n (pc := 10) dX6_linksUp_10 (.head _) ?_
        refine tw_getr (pc := 11) dX6_linksUp_11 flX6_11 hw tq475 (by decide) rfl (fun f484 q485 ef484 gf484 tq485 => ?_)
        refine tt_iload_n (pc := 14) dX6_linksUp_14 (.tail _ (.tail _ (.head _))) ?_
        refine tw_ald (pc := 15) dX6_linksUp_15 hw tq485 rfl (by decide) (by omega) (by omega) (fun f486 q487 ef486 gf486 tq487 => ?_)
        refine tw_geti (pc := 16) dX6_linksUp_16 flX6_92 hw tq487 (by decide) rfl (fun f488 x489 ef488 gf488 lx489 ux489 => ?_)
        refine tw_if (tgt := 25) (pc := 19) dX6_linksUp_19 (by decide) (fun (c490 : x489.toInt = 0) => ?_) (fun (c490 : ¬ (x489.toInt = 0)) => ?_)
        · skip
          refine tt_loc [(0, .inr (some q475)), (1, .inl x476), (2, .inl x477)] (List.forall_mem_cons.mpr ⟨(.head _), List.forall_mem_cons.mpr ⟨(.tail _ (.head _)), List.forall_mem_cons.mpr ⟨(.tail _ (.tail _ (.head _))), fun _ z => absurd z List.not_mem_nil⟩⟩⟩) ?_
          exact B25 q475 tq475 x476 x477 (by omega) (by omega) (by omega)
        · skip
          refine tw_iincA (pc := 22) dX6_linksUp_22 (.tail _ (.head _)) (by decide) (fun x491 => ?_)
          show TT _ _ _ _ _ _ _ [(1, .inl x491), (0, .inr (some q475)), (2, .inl x477)] _ _
          have bx491 := i_ty x491
          refine tt_loc [(0, .inr (some q475)), (1, .inl x491), (2, .inl x477)] (List.forall_mem_cons.mpr ⟨(.tail _ (.head _)), List.forall_mem_cons.mpr ⟨(.head _), List.forall_mem_cons.mpr ⟨(.tail _ (.tail _ (.head _))), fun _ z => absurd z List.not_mem_nil⟩⟩⟩) ?_
          exact B25 q475 tq475 x491 x477 (by omega) (by omega) (by omega)
  refine tw_iconst (pc := 0) dX6_linksUp_0 (by decide) (fun x492 ex492 => ?_)
  refine tt_istore_n (pc := 1) dX6_linksUp_1 (by decide) ?_
  show TT _ _ _ _ _ _ _ [(1, .inl x492), (0, .inr (some a0))] _ _
  refine tw_iconst (pc := 2) dX6_linksUp_2 (by decide) (fun x493 ex493 => ?_)
  refine tt_istore_n (pc := 3) dX6_linksUp_3 (by decide) ?_
  show TT _ _ _ _ _ _ _ [(2, .inl x493), (1, .inl x492), (0, .inr (some a0))] _ _
  refine tt_loc [(0, .inr (some a0)), (1, .inl x492), (2, .inl x493)] (List.forall_mem_cons.mpr ⟨(.tail _ (.tail _ (.head _))), List.forall_mem_cons.mpr ⟨(.tail _ (.head _)), List.forall_mem_cons.mpr ⟨(.head _), fun _ z => absurd z List.not_mem_nil⟩⟩⟩) ?_
  exact B4 13 a0 ta0 x492 x493 (by omega) (by omega) (by omega)
abbrev mX6_cut : tM := (RX6, cX6_cut, 4, 1, 21, false)
set_option maxHeartbeats 4000000 in
theorem g_X6_cut {l : Launch} {D : va_G} {N : Nat} {pk : Int} {τ : List Nat} (hN2 : 2 ≤ N) (hN8 : N ≤ 8) (hp0 : 0 ≤ pk) (hp64 : pk ≤ 64) {h : List tC} (hw : WT N pk τ h) (a0 : Nat) (ta0 : τ[a0]? = some 6) (a1 : Nat) (ta1 : τ[a1]? = some 2) : TMc l D yX6_cut cX6_cut 4 none 1 21 0 0 [.inr (some a0), .inr (some a1)] h (fun rv h' => WT N pk τ h' ∧ Fr PX τ h h' ∧ rv = none) := by
  refine tmc_of false rfl (by decide) (Nat.le_of_ble_eq_true rfl) ?_
  suffices HQ : ∀ Q0, Q0 = tRt cX6_cut none (fun rv h' => WT N pk τ h' ∧ Fr PX τ h h' ∧ rv = none) → TT l D mX6_cut Q0 0 0 0 [(0, .inr (some a0)), (1, .inr (some a1))] [] h from HQ _ rfl
  intro Q0 hQ
  have hf : Fr PX τ h h := Fr.rf
  have B2 : ∀ (n2 : Nat) (hb : List tC) (hwb : WT N pk τ hb) (hfb : Fr PX τ h hb) (q328 : Nat) (tq328 : τ[q328]? = some 6) (q329 : Nat) (tq329 : τ[q329]? = some 2) (x330 : Int32) (lx330 : 0 ≤ x330.toInt) (ux330 : x330.toInt ≤ 16), 16 - x330.toInt < n2 → TT l D mX6_cut Q0 0 0 2 [(0, .inr (some q328)), (1, .inr (some q329)), (2, .inl x330)] [] hb := by
    intro n2
    induction n2 with
    | zero =>
      intro hb hwb hfb q328 tq328 q329 tq329 x330 lx330 ux330 hn2
      exfalso
      omega
    | succ n2 ih2 =>
      intro hb hwb hfb q328 tq328 q329 tq329 x330 lx330 ux330 hn2
      have B42 : ∀ (hb : List tC) (hwb : WT N pk τ hb) (hfb : Fr PX τ h hb) (q331 : Nat) (tq331 : τ[q331]? = some 6) (q332 : Nat) (tq332 : τ[q332]? = some 2) (x333 : Int32) (lx333 : 0 ≤ x333.toInt) (ux333 : x333.toInt ≤ 15) (hn2 : 16 - x333.toInt < ((n2 + 1 : Nat) : Int)), TT l D mX6_cut Q0 0 0 42 [(0, .inr (some q331)), (1, .inr (some q332)), (2, .inl x333)] [] hb := by
        intro hb hwb hfb q331 tq331 q332 tq332 x333 lx333 ux333 hn2
        refine tw_iinc (pc := 42) dX6_cut_42 (.tail _ (.tail _ (.head _))) (by decide) (by decide) (by omega) (fun x334 ex334 => ?_)
        show TT _ _ _ _ _ _ _ [(2, .inl x334), (0, .inr (some q331)), (1, .inr (some q332))] _ _
        refine tt_goto (tgt := 2) (pc := 45) dX6_cut_45 (by decide) ?_
        refine tt_loc [(0, .inr (some q331)), (1, .inr (some q332)), (2, .inl x334)] (List.forall_mem_cons.mpr ⟨(.tail _ (.head _)), List.forall_mem_cons.mpr ⟨(.tail _ (.tail _ (.head _))), List.forall_mem_cons.mpr ⟨(.head _), fun _ z => absurd z List.not_mem_nil⟩⟩⟩) ?_
        exact ih2 hb hwb hfb q331 tq331 q332 tq332 x334 (by omega) (by omega) (by omega)
      refine tt_iload_n (pc := 2) dX6_cut_2 (.tail _ (.tail _ (.head _))) ?_
      refine tt_aload_n (pc := 3) dX6_cut_3 (.tail _ (.head _)) ?_
      refine tw_geti (pc := 4) dX6_cut_4 flX6_170 hwb tq329 (by decide) rfl (fun f335 x336 ef335 gf335 lx336 ux336 => ?_)
      refine tw_icmp (tgt := 48) (pc := 7) dX6_cut_7 (by decide) (fun (c337 : x336.toInt ≤ x330.toInt) => ?_) (fun (c337 : ¬ (x336.toInt ≤ x330.toInt)) => ?_)
      · skip
        refine tt_aload_n (pc := 48) dX6_cut_48 (.tail _ (.head _)) ?_
        refine tw_iconst (pc := 49) dX6_cut_49 (by decide) (fun x338 ex338 => ?_)
        refine tw_put (P := PX) (pc := 50) dX6_cut_50 flX6_170 hwb tq329 (by decide) rfl ⟨by omega, by omega⟩ rfl (by decide) (by decide) (fun f339 h340 eh340 gh340 kh340 wh340 fh340 => ?_)
        have hfh340 := hfb.tr fh340
        refine tt_stop ?_
        rw [hQ]
        exact Or.inl ⟨dX6_cut_53, rfl, rfl, wh340, hfh340, rfl⟩
      · skip
        refine tt_aload_n (pc := 10) dX6_cut_10 (.tail _ (.head _)) ?_
        refine tt_iload_n (pc := 11) dX6_cut_11 (.tail _ (.tail _ (.head _))) ?_
        refine tw_callV (kc := 0) (ks := 0) (mc := 0) (ms := 0) (as := [.inl x330]) (st := []) (pc := 12) hwb tq329 (by decide) dX6_cut_12 lkX6_135 imX2_at seX2_at rfl rfl (by decide) (by decide) (Nat.le_of_ble_eq_true rfl) (g_X2_at hN2 hN8 hp0 hp64 hwb q329 tq329 x330) (fun rv h341 qh341 => ?_)
        obtain ⟨rfl, o342, rfl, to342⟩ := qh341
        show TT _ _ _ _ _ _ _ _ [.inr o342] _
        refine tt_astore_n (pc := 15) dX6_cut_15 (by decide) ?_
        show TT _ _ _ _ _ _ _ [(3, .inr o342), (0, .inr (some q328)), (1, .inr (some q329)), (2, .inl x330)] _ _
        refine tt_aload_n (pc := 16) dX6_cut_16 (.head _) ?_
        refine tt_ifnull (tgt := 42) (pc := 17) dX6_cut_17 (by decide) (fun z343 => ?_) (fun q344 z343 => ?_)
        · subst z343
          refine tt_loc [(0, .inr (some q328)), (1, .inr (some q329)), (2, .inl x330)] (List.forall_mem_cons.mpr ⟨(.tail _ (.head _)), List.forall_mem_cons.mpr ⟨(.tail _ (.tail _ (.head _))), List.forall_mem_cons.mpr ⟨(.tail _ (.tail _ (.tail _ (.head _)))), fun _ z => absurd z List.not_mem_nil⟩⟩⟩) ?_
          exact B42 hb hwb hfb q328 tq328 q329 tq329 x330 (by omega) (by omega) (by omega)
        · have tq344 := to342 q344 z343
          subst z343
          refine tt_aload_n (pc := 20) dX6_cut_20 (.head _) ?_
          refine tw_geti (pc := 21) dX6_cut_21 flX6_246 hwb tq344 (by decide) rfl (fun f345 x346 ef345 gf345 lx346 ux346 => ?_)
          refine tw_iconst (pc := 24) dX6_cut_24 (by decide) (fun x347 ex347 => ?_)
          refine tw_icmp (tgt := 42) (pc := 25) dX6_cut_25 (by decide) (fun (c348 : x346.toInt ≠ x347.toInt) => ?_) (fun (c348 : ¬ (x346.toInt ≠ x347.toInt)) => ?_)
          · skip
            refine tt_loc [(0, .inr (some q328)), (1, .inr (some q329)), (2, .inl x330)] (List.forall_mem_cons.mpr ⟨(.tail _ (.head _)), List.forall_mem_cons.mpr ⟨(.tail _ (.tail _ (.head _))), List.forall_mem_cons.mpr ⟨(.tail _ (.tail _ (.tail _ (.head _)))), fun _ z => absurd z List.not_mem_nil⟩⟩⟩) ?_
            exact B42 hb hwb hfb q328 tq328 q329 tq329 x330 (by omega) (by omega) (by omega)
          · skip
            refine tt_aload_n (pc := 28) dX6_cut_28 (.tail _ (.head _)) ?_
            refine tw_getr (pc := 29) dX6_cut_29 flX6_21 hwb tq328 (by decide) rfl (fun f349 q350 ef349 gf349 tq350 => ?_)
            refine tt_aload_n (pc := 32) dX6_cut_32 (.head _) ?_
            refine tw_subjp (pc := 33) dX6_cut_33 flX6_176 hwb tq344 (fun fs8 x8 e8 g8 => by have kq : 4 ≤ x8.toInt ∧ x8.toInt ≤ 4 := (fun fs9 x9 e9 g9 => by rw [ef345] at e9; cases e9; rw [gf345] at g9; cases g9; exact ⟨by omega, by omega⟩) fs8 x8 e8 g8; omega) (fun f351 x352 ef351 gf351 lx352 ux352 => ?_)
            refine tw_aldp (pc := 36) dX6_cut_36 hwb tq350 (by omega) (by omega) (by omega) (fun f353 q354 ef353 gf353 tq354 => ?_)
            refine tw_bipush (pc := 37) dX6_cut_37 (by decide) (fun x355 ex355 => ?_)
            refine tw_put (P := PX) (pc := 39) dX6_cut_39 flX6_155 hwb tq354 (by decide) rfl ⟨by omega, by omega⟩ rfl (by decide) (by decide) (fun f356 h357 eh357 gh357 kh357 wh357 fh357 => ?_)
            have hfh357 := hfb.tr fh357
            refine tt_loc [(0, .inr (some q328)), (1, .inr (some q329)), (2, .inl x330)] (List.forall_mem_cons.mpr ⟨(.tail _ (.head _)), List.forall_mem_cons.mpr ⟨(.tail _ (.tail _ (.head _))), List.forall_mem_cons.mpr ⟨(.tail _ (.tail _ (.tail _ (.head _)))), fun _ z => absurd z List.not_mem_nil⟩⟩⟩) ?_
            exact B42 h357 wh357 hfh357 q328 tq328 q329 tq329 x330 (by omega) (by omega) (by omega)
  refine tw_iconst (pc := 0) dX6_cut_0 (by decide) (fun x358 ex358 => ?_)
  refine tt_istore_n (pc := 1) dX6_cut_1 (by decide) ?_
  show TT _ _ _ _ _ _ _ [(2, .inl x358), (0, .inr (some a0)), (1, .inr (some a1))] _ _
  refine tt_loc [(0, .inr (some a0)), (1, .inr (some a1)), (2, .inl x358)] (List.forall_mem_cons.mpr ⟨(.tail _ (.head _)), List.forall_mem_cons.mpr ⟨(.tail _ (.tail _ (.head _))), List.forall_mem_cons.mpr ⟨(.head _), fun _ z => absurd z List.not_mem_nil⟩⟩⟩) ?_
  exact B2 17 h hw hf a0 ta0 a1 ta1 x358 (by omega) (by omega) (by omega)
abbrev mX6_linksUpAt : tM := (RX6, cX6_linksUpAt, 4, 1, 21, false)
set_option maxHeartbeats 4000000 in
theorem g_X6_linksUpAt {l : Launch} {D : va_G} {N : Nat} {pk : Int} {τ : List Nat} (hN2 : 2 ≤ N) (hN8 : N ≤ 8) (hp0 : 0 ≤ pk) (hp64 : pk ≤ 64) {h : List tC} (hw : WT N pk τ h) (a0 : Nat) (ta0 : τ[a0]? = some 6) (a1 : Int32) : TMc l D yX6_linksUpAt cX6_linksUpAt 4 (some .int) 1 21 0 0 [.inr (some a0), .inl a1] h (fun rv h' => h = h' ∧ ∃ x : Int32, rv = some (.inl x) ∧ -2147483648 ≤ x.toInt ∧ x.toInt ≤ 2147483647) := by
  refine tmc_of false rfl (by decide) (Nat.le_of_ble_eq_true rfl) ?_
  suffices HQ : ∀ Q0, Q0 = tRt cX6_linksUpAt (some .int) (fun rv h' => h = h' ∧ ∃ x : Int32, rv = some (.inl x) ∧ -2147483648 ≤ x.toInt ∧ x.toInt ≤ 2147483647) → TT l D mX6_linksUpAt Q0 0 0 0 [(0, .inr (some a0)), (1, .inl a1)] [] h from HQ _ rfl
  intro Q0 hQ
  have B4 : ∀ (n4 : Nat) (q187 : Nat) (tq187 : τ[q187]? = some 6) (x188 : Int32) (x189 : Int32) (x190 : Int32) (lx190 : 0 ≤ x190.toInt) (ux190 : x190.toInt ≤ 12), 12 - x190.toInt < n4 → TT l D mX6_linksUpAt Q0 0 0 4 [(0, .inr (some q187)), (1, .inl x188), (2, .inl x189), (3, .inl x190)] [] h := by
    intro n4
    induction n4 with
    | zero =>
      intro q187 tq187 x188 x189 x190 lx190 ux190 hn4
      exfalso
      omega
    | succ n4 ih4 =>
      intro q187 tq187 x188 x189 x190 lx190 ux190 hn4
      have bx188 := i_ty x188
      have bx189 := i_ty x189
      have B29 : ∀ (q191 : Nat) (tq191 : τ[q191]? = some 6) (x192 : Int32) (x193 : Int32) (x194 : Int32) (lx194 : 0 ≤ x194.toInt) (ux194 : x194.toInt ≤ 11) (hn4 : 12 - x194.toInt < ((n4 + 1 : Nat) : Int)), TT l D mX6_linksUpAt Q0 0 0 29 [(0, .inr (some q191)), (1, .inl x192), (2, .inl x193), (3, .inl x194)] [] h := by
        intro q191 tq191 x192 x193 x194 lx194 ux194 hn4
        have bx192 := i_ty x192
        have bx193 := i_ty x193
        refine tw_iinc (pc := 29) dX6_linksUpAt_29 (.tail _ (.tail _ (.tail _ (.head _)))) (by decide) (by decide) (by omega) (fun x195 ex195 => ?_)
        show TT _ _ _ _ _ _ _ [(3, .inl x195), (0, .inr (some q191)), (1, .inl x192), (2, .inl x193)] _ _
        refine tt_goto (tgt := 4) (pc := 32) dX6_linksUpAt_32 (by decide) ?_
        refine tt_loc [(0, .inr (some q191)), (1, .inl x192), (2, .inl x193), (3, .inl x195)] (List.forall_mem_cons.mpr ⟨(.tail _ (.head _)), List.forall_mem_cons.mpr ⟨(.tail _ (.tail _ (.head _))), List.forall_mem_cons.mpr ⟨(.tail _ (.tail _ (.tail _ (.head _)))), List.forall_mem_cons.mpr ⟨(.head _), fun _ z => absurd z List.not_mem_nil⟩⟩⟩⟩) ?_
        exact ih4 q191 tq191 x192 x193 x195 (by omega) (by omega) (by omega)
      refine tt_iload_n (pc := 4) dX6_linksUpAt_4 (.tail _ (.tail _ (.tail _ (.head _)))) ?_
      refine tw_bipush (pc := 5) dX6_linksUpAt_5 (by decide) (fun x196 ex196 => ?_)
      refine tw_icmp (tgt := 35) (pc := 7) dX6_linksUpAt_7 (by decide) (fun (c197 : x196.toInt ≤ x190.toInt) => ?_) (fun (c197 : ¬ (x196.toInt ≤ x190.toInt)) => ?_)
      · skip
        refine tt_iload_n (pc := 35) dX6_linksUpAt_35 (.tail _ (.tail _ (.head _))) ?_
        refine tt_stop ?_
        rw [hQ]
        exact Or.inr (Or.inl ⟨x189, dX6_linksUpAt_36, rfl, Or.inl rfl, rfl, x189, rfl, by omega, by omega⟩)
      · skip
        refine tt_aload_n (pc := 10) dX6_linksUpAt_10 (.head _) ?_
        refine tw_getr (pc := 11) dX6_linksUpAt_11 flX6_11 hw tq187 (by decide) rfl (fun f198 q199 ef198 gf198 tq199 => ?_)
        refine tt_iload_n (pc := 14) dX6_linksUpAt_14 (.tail _ (.tail _ (.tail _ (.head _)))) ?_
        refine tw_ald (pc := 15) dX6_linksUpAt_15 hw tq199 rfl (by decide) (by omega) (by omega) (fun f200 q201 ef200 gf200 tq201 => ?_)
        refine tt_iload_n (pc := 16) dX6_linksUpAt_16 (.tail _ (.head _)) ?_
        refine tw_callV (kc := 0) (ks := 0) (mc := 0) (ms := 0) (as := [.inl x188]) (st := []) (pc := 17) hw tq201 (by decide) dX6_linksUpAt_17 lkX6_273 imX0_isUpAt seX0_isUpAt rfl rfl (by decide) (by decide) (Nat.le_of_ble_eq_true rfl) (g_X0_isUpAt hN2 hN8 hp0 hp64 hw q201 tq201 x188) (fun rv h202 qh202 => ?_)
        obtain ⟨rfl, x203, rfl, lx203, ux203⟩ := qh202
        show TT _ _ _ _ _ _ _ _ [.inl x203] _
        refine tw_if (tgt := 29) (pc := 20) dX6_linksUpAt_20 (by decide) (fun (c204 : x203.toInt = 0) => ?_) (fun (c204 : ¬ (x203.toInt = 0)) => ?_)
        · skip
          refine tt_loc [(0, .inr (some q187)), (1, .inl x188), (2, .inl x189), (3, .inl x190)] (List.forall_mem_cons.mpr ⟨(.head _), List.forall_mem_cons.mpr ⟨(.tail _ (.head _)), List.forall_mem_cons.mpr ⟨(.tail _ (.tail _ (.head _))), List.forall_mem_cons.mpr ⟨(.tail _ (.tail _ (.tail _ (.head _)))), fun _ z => absurd z List.not_mem_nil⟩⟩⟩⟩) ?_
          exact B29 q187 tq187 x188 x189 x190 (by omega) (by omega) (by omega)
        · skip
          refine tt_iload_n (pc := 23) dX6_linksUpAt_23 (.tail _ (.tail _ (.head _))) ?_
          refine tw_iconst (pc := 24) dX6_linksUpAt_24 (by decide) (fun x205 ex205 => ?_)
          refine tt_iload_n (pc := 25) dX6_linksUpAt_25 (.tail _ (.tail _ (.tail _ (.head _)))) ?_
          refine tt_ishl (pc := 26) dX6_linksUpAt_26 ?_
          refine tw_any (fun x206 => ?_)
          have bx206 := i_ty x206
          refine tt_ior (pc := 27) dX6_linksUpAt_27 ?_
          refine tw_any (fun x207 => ?_)
          have bx207 := i_ty x207
          refine tt_istore_n (pc := 28) dX6_linksUpAt_28 (by decide) ?_
          show TT _ _ _ _ _ _ _ [(2, .inl x207), (0, .inr (some q187)), (1, .inl x188), (3, .inl x190)] _ _
          refine tt_loc [(0, .inr (some q187)), (1, .inl x188), (2, .inl x207), (3, .inl x190)] (List.forall_mem_cons.mpr ⟨(.tail _ (.head _)), List.forall_mem_cons.mpr ⟨(.tail _ (.tail _ (.head _))), List.forall_mem_cons.mpr ⟨(.head _), List.forall_mem_cons.mpr ⟨(.tail _ (.tail _ (.tail _ (.head _)))), fun _ z => absurd z List.not_mem_nil⟩⟩⟩⟩) ?_
          exact B29 q187 tq187 x188 x207 x190 (by omega) (by omega) (by omega)
  have ba1 := i_ty a1
  refine tw_iconst (pc := 0) dX6_linksUpAt_0 (by decide) (fun x208 ex208 => ?_)
  refine tt_istore_n (pc := 1) dX6_linksUpAt_1 (by decide) ?_
  show TT _ _ _ _ _ _ _ [(2, .inl x208), (0, .inr (some a0)), (1, .inl a1)] _ _
  refine tw_iconst (pc := 2) dX6_linksUpAt_2 (by decide) (fun x209 ex209 => ?_)
  refine tt_istore_n (pc := 3) dX6_linksUpAt_3 (by decide) ?_
  show TT _ _ _ _ _ _ _ [(3, .inl x209), (2, .inl x208), (0, .inr (some a0)), (1, .inl a1)] _ _
  refine tt_loc [(0, .inr (some a0)), (1, .inl a1), (2, .inl x208), (3, .inl x209)] (List.forall_mem_cons.mpr ⟨(.tail _ (.tail _ (.head _))), List.forall_mem_cons.mpr ⟨(.tail _ (.tail _ (.tail _ (.head _)))), List.forall_mem_cons.mpr ⟨(.tail _ (.head _)), List.forall_mem_cons.mpr ⟨(.head _), fun _ z => absurd z List.not_mem_nil⟩⟩⟩⟩) ?_
  exact B4 13 a0 ta0 a1 x208 x209 (by omega) (by omega) (by omega)
abbrev mX6_prefixesAt : tM := (RX6, cX6_prefixesAt, 4, 0, 0, false)
set_option maxHeartbeats 4000000 in
theorem g_X6_prefixesAt {l : Launch} {D : va_G} {N : Nat} {pk : Int} {τ : List Nat} (hN2 : 2 ≤ N) (hN8 : N ≤ 8) (hp0 : 0 ≤ pk) (hp64 : pk ≤ 64) {h : List tC} (hw : WT N pk τ h) (a0 : Nat) (ta0 : τ[a0]? = some 6) (a1 : Int32) : TMc l D yX6_prefixesAt cX6_prefixesAt 4 (some .int) 0 0 0 0 [.inr (some a0), .inl a1] h (fun rv h' => h = h' ∧ ∃ x : Int32, rv = some (.inl x) ∧ -2147483648 ≤ x.toInt ∧ x.toInt ≤ 2147483647) := by
  refine tmc_of false rfl (by decide) (Nat.le_of_ble_eq_true rfl) ?_
  suffices HQ : ∀ Q0, Q0 = tRt cX6_prefixesAt (some .int) (fun rv h' => h = h' ∧ ∃ x : Int32, rv = some (.inl x) ∧ -2147483648 ≤ x.toInt ∧ x.toInt ≤ 2147483647) → TT l D mX6_prefixesAt Q0 0 0 0 [(0, .inr (some a0)), (1, .inl a1)] [] h from HQ _ rfl
  intro Q0 hQ
  have B4 : ∀ (n4 : Nat) (q131 : Nat) (tq131 : τ[q131]? = some 6) (x132 : Int32) (x133 : Int32) (x134 : Int32) (lx134 : 0 ≤ x134.toInt) (ux134 : x134.toInt ≤ 8), 8 - x134.toInt < n4 → TT l D mX6_prefixesAt Q0 0 0 4 [(0, .inr (some q131)), (1, .inl x132), (2, .inl x133), (3, .inl x134)] [] h := by
    intro n4
    induction n4 with
    | zero =>
      intro q131 tq131 x132 x133 x134 lx134 ux134 hn4
      exfalso
      omega
    | succ n4 ih4 =>
      intro q131 tq131 x132 x133 x134 lx134 ux134 hn4
      have bx132 := i_ty x132
      have bx133 := i_ty x133
      have B26 : ∀ (q135 : Nat) (tq135 : τ[q135]? = some 6) (x136 : Int32) (x137 : Int32) (x138 : Int32) (lx138 : 0 ≤ x138.toInt) (ux138 : x138.toInt ≤ 7) (hn4 : 8 - x138.toInt < ((n4 + 1 : Nat) : Int)), TT l D mX6_prefixesAt Q0 0 0 26 [(0, .inr (some q135)), (1, .inl x136), (2, .inl x137), (3, .inl x138)] [] h := by
        intro q135 tq135 x136 x137 x138 lx138 ux138 hn4
        have bx136 := i_ty x136
        have bx137 := i_ty x137
        refine tw_iinc (pc := 26) dX6_prefixesAt_26 (.tail _ (.tail _ (.tail _ (.head _)))) (by decide) (by decide) (by omega) (fun x139 ex139 => ?_)
        show TT _ _ _ _ _ _ _ [(3, .inl x139), (0, .inr (some q135)), (1, .inl x136), (2, .inl x137)] _ _
        refine tt_goto (tgt := 4) (pc := 29) dX6_prefixesAt_29 (by decide) ?_
        refine tt_loc [(0, .inr (some q135)), (1, .inl x136), (2, .inl x137), (3, .inl x139)] (List.forall_mem_cons.mpr ⟨(.tail _ (.head _)), List.forall_mem_cons.mpr ⟨(.tail _ (.tail _ (.head _))), List.forall_mem_cons.mpr ⟨(.tail _ (.tail _ (.tail _ (.head _)))), List.forall_mem_cons.mpr ⟨(.head _), fun _ z => absurd z List.not_mem_nil⟩⟩⟩⟩) ?_
        exact ih4 q135 tq135 x136 x137 x139 (by omega) (by omega) (by omega)
      refine tt_iload_n (pc := 4) dX6_prefixesAt_4 (.tail _ (.tail _ (.tail _ (.head _)))) ?_
      refine tw_bipush (pc := 5) dX6_prefixesAt_5 (by decide) (fun x140 ex140 => ?_)
      refine tw_icmp (tgt := 32) (pc := 7) dX6_prefixesAt_7 (by decide) (fun (c141 : x140.toInt ≤ x134.toInt) => ?_) (fun (c141 : ¬ (x140.toInt ≤ x134.toInt)) => ?_)
      · skip
        refine tt_iload_n (pc := 32) dX6_prefixesAt_32 (.tail _ (.tail _ (.head _))) ?_
        refine tt_stop ?_
        rw [hQ]
        exact Or.inr (Or.inl ⟨x133, dX6_prefixesAt_33, rfl, Or.inl rfl, rfl, x133, rfl, by omega, by omega⟩)
      · skip
        refine tt_aload_n (pc := 10) dX6_prefixesAt_10 (.head _) ?_
        refine tw_getr (pc := 11) dX6_prefixesAt_11 flX6_15 hw tq131 (by decide) rfl (fun f142 q143 ef142 gf142 tq143 => ?_)
        refine tt_iload_n (pc := 14) dX6_prefixesAt_14 (.tail _ (.tail _ (.tail _ (.head _)))) ?_
        refine tw_ild (pc := 15) dX6_prefixesAt_15 hw tq143 rfl (by omega) (by omega) (fun f145 x144 ef145 gf145 lx144 ux144 => ?_)
        refine tt_iload_n (pc := 16) dX6_prefixesAt_16 (.tail _ (.head _)) ?_
        refine tw_icmp (tgt := 26) (pc := 17) dX6_prefixesAt_17 (by decide) (fun (c146 : x144.toInt ≠ x132.toInt) => ?_) (fun (c146 : ¬ (x144.toInt ≠ x132.toInt)) => ?_)
        · skip
          refine tt_loc [(0, .inr (some q131)), (1, .inl x132), (2, .inl x133), (3, .inl x134)] (List.forall_mem_cons.mpr ⟨(.head _), List.forall_mem_cons.mpr ⟨(.tail _ (.head _)), List.forall_mem_cons.mpr ⟨(.tail _ (.tail _ (.head _))), List.forall_mem_cons.mpr ⟨(.tail _ (.tail _ (.tail _ (.head _)))), fun _ z => absurd z List.not_mem_nil⟩⟩⟩⟩) ?_
          exact B26 q131 tq131 x132 x133 x134 (by omega) (by omega) (by omega)
        · skip
          refine tt_iload_n (pc := 20) dX6_prefixesAt_20 (.tail _ (.tail _ (.head _))) ?_
          refine tw_iconst (pc := 21) dX6_prefixesAt_21 (by decide) (fun x147 ex147 => ?_)
          refine tt_iload_n (pc := 22) dX6_prefixesAt_22 (.tail _ (.tail _ (.tail _ (.head _)))) ?_
          refine tt_ishl (pc := 23) dX6_prefixesAt_23 ?_
          refine tw_any (fun x148 => ?_)
          have bx148 := i_ty x148
          refine tt_ior (pc := 24) dX6_prefixesAt_24 ?_
          refine tw_any (fun x149 => ?_)
          have bx149 := i_ty x149
          refine tt_istore_n (pc := 25) dX6_prefixesAt_25 (by decide) ?_
          show TT _ _ _ _ _ _ _ [(2, .inl x149), (0, .inr (some q131)), (1, .inl x132), (3, .inl x134)] _ _
          refine tt_loc [(0, .inr (some q131)), (1, .inl x132), (2, .inl x149), (3, .inl x134)] (List.forall_mem_cons.mpr ⟨(.tail _ (.head _)), List.forall_mem_cons.mpr ⟨(.tail _ (.tail _ (.head _))), List.forall_mem_cons.mpr ⟨(.head _), List.forall_mem_cons.mpr ⟨(.tail _ (.tail _ (.tail _ (.head _)))), fun _ z => absurd z List.not_mem_nil⟩⟩⟩⟩) ?_
          exact B26 q131 tq131 x132 x149 x134 (by omega) (by omega) (by omega)
  have ba1 := i_ty a1
  refine tw_iconst (pc := 0) dX6_prefixesAt_0 (by decide) (fun x150 ex150 => ?_)
  refine tt_istore_n (pc := 1) dX6_prefixesAt_1 (by decide) ?_
  show TT _ _ _ _ _ _ _ [(2, .inl x150), (0, .inr (some a0)), (1, .inl a1)] _ _
  refine tw_iconst (pc := 2) dX6_prefixesAt_2 (by decide) (fun x151 ex151 => ?_)
  refine tt_istore_n (pc := 3) dX6_prefixesAt_3 (by decide) ?_
  show TT _ _ _ _ _ _ _ [(3, .inl x151), (2, .inl x150), (0, .inr (some a0)), (1, .inl a1)] _ _
  refine tt_loc [(0, .inr (some a0)), (1, .inl a1), (2, .inl x150), (3, .inl x151)] (List.forall_mem_cons.mpr ⟨(.tail _ (.tail _ (.head _))), List.forall_mem_cons.mpr ⟨(.tail _ (.tail _ (.tail _ (.head _)))), List.forall_mem_cons.mpr ⟨(.tail _ (.head _)), List.forall_mem_cons.mpr ⟨(.head _), fun _ z => absurd z List.not_mem_nil⟩⟩⟩⟩) ?_
  exact B4 9 a0 ta0 a1 x150 x151 (by omega) (by omega) (by omega)
abbrev mX6_learn : tM := (RX6, cX6_learn, 5, 3, 66, false)
set_option maxHeartbeats 4000000 in
theorem g_X6_learn {l : Launch} {D : va_G} {N : Nat} {pk : Int} {τ : List Nat} (hN2 : 2 ≤ N) (hN8 : N ≤ 8) (hp0 : 0 ≤ pk) (hp64 : pk ≤ 64) {h : List tC} (hw : WT N pk τ h) (a0 : Nat) (ta0 : τ[a0]? = some 6) (a1 : Nat) (ta1 : τ[a1]? = some 4) (a2 : Nat) (ta2 : τ[a2]? = some 5) : TMc l D yX6_learn cX6_learn 5 none 3 66 0 0 [.inr (some a0), .inr (some a1), .inr (some a2)] h (fun rv h' => WT N pk τ h' ∧ Fr PX τ h h' ∧ rv = none) := by
  refine tmc_of false rfl (by decide) (Nat.le_of_ble_eq_true rfl) ?_
  suffices HQ : ∀ Q0, Q0 = tRt cX6_learn none (fun rv h' => WT N pk τ h' ∧ Fr PX τ h h' ∧ rv = none) → TT l D mX6_learn Q0 0 0 0 [(0, .inr (some a0)), (1, .inr (some a1)), (2, .inr (some a2))] [] h from HQ _ rfl
  intro Q0 hQ
  have hf : Fr PX τ h h := Fr.rf
  have B16 : ∀ (n16 : Nat) (hb : List tC) (hwb : WT N pk τ hb) (hfb : Fr PX τ h hb) (q267 : Nat) (tq267 : τ[q267]? = some 6) (q268 : Nat) (tq268 : τ[q268]? = some 4) (x269 : Int32) (lx269 : 0 ≤ x269.toInt) (ux269 : x269.toInt ≤ 12), 12 - x269.toInt < n16 → TT l D mX6_learn Q0 0 0 16 [(0, .inr (some q267)), (1, .inr (some q268)), (3, .inl x269)] [] hb := by
    intro n16
    induction n16 with
    | zero =>
      intro hb hwb hfb q267 tq267 q268 tq268 x269 lx269 ux269 hn16
      exfalso
      omega
    | succ n16 ih16 =>
      intro hb hwb hfb q267 tq267 q268 tq268 x269 lx269 ux269 hn16
      have B83 : ∀ (hb : List tC) (hwb : WT N pk τ hb) (hfb : Fr PX τ h hb) (q270 : Nat) (tq270 : τ[q270]? = some 6) (q271 : Nat) (tq271 : τ[q271]? = some 4) (x272 : Int32) (lx272 : 0 ≤ x272.toInt) (ux272 : x272.toInt ≤ 11) (hn16 : 12 - x272.toInt < ((n16 + 1 : Nat) : Int)), TT l D mX6_learn Q0 0 0 83 [(0, .inr (some q270)), (1, .inr (some q271)), (3, .inl x272)] [] hb := by
        intro hb hwb hfb q270 tq270 q271 tq271 x272 lx272 ux272 hn16
        refine tw_iinc (pc := 83) dX6_learn_83 (.tail _ (.tail _ (.head _))) (by decide) (by decide) (by omega) (fun x273 ex273 => ?_)
        show TT _ _ _ _ _ _ _ [(3, .inl x273), (0, .inr (some q270)), (1, .inr (some q271))] _ _
        refine tt_goto (tgt := 16) (pc := 86) dX6_learn_86 (by decide) ?_
        refine tt_loc [(0, .inr (some q270)), (1, .inr (some q271)), (3, .inl x273)] (List.forall_mem_cons.mpr ⟨(.tail _ (.head _)), List.forall_mem_cons.mpr ⟨(.tail _ (.tail _ (.head _))), List.forall_mem_cons.mpr ⟨(.head _), fun _ z => absurd z List.not_mem_nil⟩⟩⟩) ?_
        exact ih16 hb hwb hfb q270 tq270 q271 tq271 x273 (by omega) (by omega) (by omega)
      refine tt_iload_n (pc := 16) dX6_learn_16 (.tail _ (.tail _ (.head _))) ?_
      refine tw_bipush (pc := 17) dX6_learn_17 (by decide) (fun x274 ex274 => ?_)
      refine tw_icmp (tgt := 89) (pc := 19) dX6_learn_19 (by decide) (fun (c275 : x274.toInt ≤ x269.toInt) => ?_) (fun (c275 : ¬ (x274.toInt ≤ x269.toInt)) => ?_)
      · skip
        refine tt_aload_n (pc := 89) dX6_learn_89 (.tail _ (.head _)) ?_
        refine tw_callV (kc := 0) (ks := 0) (mc := 0) (ms := 0) (as := []) (st := []) (pc := 90) hwb tq268 (by decide) dX6_learn_90 lkX6_296 imX4_joinSteps seX4_joinSteps rfl rfl (by decide) (by decide) (Nat.le_of_ble_eq_true rfl) (g_X4_joinSteps hN2 hN8 hp0 hp64 hwb q268 tq268) (fun rv h276 qh276 => ?_)
        obtain ⟨wh276, fh276, rfl⟩ := qh276
        have hfh276 := hfb.tr fh276
        show TT _ _ _ _ _ _ _ _ [] _
        refine tt_stop ?_
        rw [hQ]
        exact Or.inl ⟨dX6_learn_93, rfl, rfl, wh276, hfh276, rfl⟩
      · skip
        refine tt_aload_n (pc := 22) dX6_learn_22 (.head _) ?_
        refine tw_getr (pc := 23) dX6_learn_23 flX6_11 hwb tq267 (by decide) rfl (fun f277 q278 ef277 gf277 tq278 => ?_)
        refine tt_iload_n (pc := 26) dX6_learn_26 (.tail _ (.tail _ (.head _))) ?_
        refine tw_ald (pc := 27) dX6_learn_27 hwb tq278 rfl (by decide) (by omega) (by omega) (fun f279 q280 ef279 gf279 tq280 => ?_)
        refine tt_astore (pc := 28) dX6_learn_28 (by decide) ?_
        show TT _ _ _ _ _ _ _ [(4, .inr (some q280)), (0, .inr (some q267)), (1, .inr (some q268)), (3, .inl x269)] _ _
        refine tt_aload (pc := 30) dX6_learn_30 (.head _) ?_
        refine tw_geti (pc := 32) dX6_learn_32 flX6_72 hwb tq280 (by decide) rfl (fun f281 x282 ef281 gf281 lx282 ux282 => ?_)
        refine tw_if (tgt := 83) (pc := 35) dX6_learn_35 (by decide) (fun (c283 : x282.toInt = 0) => ?_) (fun (c283 : ¬ (x282.toInt = 0)) => ?_)
        · skip
          refine tt_loc [(0, .inr (some q267)), (1, .inr (some q268)), (3, .inl x269)] (List.forall_mem_cons.mpr ⟨(.tail _ (.head _)), List.forall_mem_cons.mpr ⟨(.tail _ (.tail _ (.head _))), List.forall_mem_cons.mpr ⟨(.tail _ (.tail _ (.tail _ (.head _)))), fun _ z => absurd z List.not_mem_nil⟩⟩⟩) ?_
          exact B83 hb hwb hfb q267 tq267 q268 tq268 x269 (by omega) (by omega) (by omega)
        · skip
          refine tt_aload_n (pc := 38) dX6_learn_38 (.tail _ (.tail _ (.head _))) ?_
          refine tt_aload (pc := 39) dX6_learn_39 (.head _) ?_
          refine tw_geti (pc := 41) dX6_learn_41 flX6_81 hwb tq280 (by decide) rfl (fun f284 x285 ef284 gf284 lx285 ux285 => ?_)
          refine tt_iload_n (pc := 44) dX6_learn_44 (.tail _ (.tail _ (.tail _ (.head _)))) ?_
          refine tw_callV (kc := 0) (ks := 0) (mc := 0) (ms := 0) (as := [.inl x285, .inl x269]) (st := []) (pc := 45) hwb tq268 (by decide) dX6_learn_45 lkX6_288 imX4_knowsUp seX4_knowsUp rfl rfl (by decide) (by decide) (Nat.le_of_ble_eq_true rfl) (g_X4_knowsUp hN2 hN8 hp0 hp64 hwb q268 tq268 x285 (by omega) (by omega) x269) (fun rv h286 qh286 => ?_)
          obtain ⟨rfl, x287, rfl, lx287, ux287⟩ := qh286
          show TT _ _ _ _ _ _ _ _ [.inl x287] _
          refine tw_if (tgt := 83) (pc := 48) dX6_learn_48 (by decide) (fun (c288 : x287.toInt = 0) => ?_) (fun (c288 : ¬ (x287.toInt = 0)) => ?_)
          · skip
            refine tt_loc [(0, .inr (some q267)), (1, .inr (some q268)), (3, .inl x269)] (List.forall_mem_cons.mpr ⟨(.tail _ (.head _)), List.forall_mem_cons.mpr ⟨(.tail _ (.tail _ (.head _))), List.forall_mem_cons.mpr ⟨(.tail _ (.tail _ (.tail _ (.head _)))), fun _ z => absurd z List.not_mem_nil⟩⟩⟩) ?_
            exact B83 hb hwb hfb q267 tq267 q268 tq268 x269 (by omega) (by omega) (by omega)
          · skip
            refine tt_aload_n (pc := 51) dX6_learn_51 (.tail _ (.tail _ (.head _))) ?_
            refine tt_aload (pc := 52) dX6_learn_52 (.head _) ?_
            refine tw_geti (pc := 54) dX6_learn_54 flX6_84 hwb tq280 (by decide) rfl (fun f289 x290 ef289 gf289 lx290 ux290 => ?_)
            refine tt_iload_n (pc := 57) dX6_learn_57 (.tail _ (.tail _ (.tail _ (.head _)))) ?_
            refine tw_callV (kc := 0) (ks := 0) (mc := 0) (ms := 0) (as := [.inl x290, .inl x269]) (st := []) (pc := 58) hwb tq268 (by decide) dX6_learn_58 lkX6_288 imX4_knowsUp seX4_knowsUp rfl rfl (by decide) (by decide) (Nat.le_of_ble_eq_true rfl) (g_X4_knowsUp hN2 hN8 hp0 hp64 hwb q268 tq268 x290 (by omega) (by omega) x269) (fun rv h291 qh291 => ?_)
            obtain ⟨rfl, x292, rfl, lx292, ux292⟩ := qh291
            show TT _ _ _ _ _ _ _ _ [.inl x292] _
            refine tw_if (tgt := 83) (pc := 61) dX6_learn_61 (by decide) (fun (c293 : x292.toInt = 0) => ?_) (fun (c293 : ¬ (x292.toInt = 0)) => ?_)
            · skip
              refine tt_loc [(0, .inr (some q267)), (1, .inr (some q268)), (3, .inl x269)] (List.forall_mem_cons.mpr ⟨(.tail _ (.head _)), List.forall_mem_cons.mpr ⟨(.tail _ (.tail _ (.head _))), List.forall_mem_cons.mpr ⟨(.tail _ (.tail _ (.tail _ (.head _)))), fun _ z => absurd z List.not_mem_nil⟩⟩⟩) ?_
              exact B83 hb hwb hfb q267 tq267 q268 tq268 x269 (by omega) (by omega) (by omega)
            · skip
              refine tt_aload_n (pc := 64) dX6_learn_64 (.tail _ (.tail _ (.head _))) ?_
              refine tt_aload (pc := 65) dX6_learn_65 (.head _) ?_
              refine tt_get (pc := 67) dX6_learn_67 flX6_81 ef284 gf284 ?_
              refine tt_aload (pc := 70) dX6_learn_70 (.head _) ?_
              refine tt_get (pc := 72) dX6_learn_72 flX6_84 ef289 gf289 ?_
              refine tt_aload (pc := 75) dX6_learn_75 (.head _) ?_
              refine tw_geti (pc := 77) dX6_learn_77 flX6_87 hwb tq280 (by decide) rfl (fun f294 x295 ef294 gf294 lx295 ux295 => ?_)
              refine tw_callV (kc := 0) (ks := 0) (mc := 0) (ms := 0) (as := [.inl x285, .inl x290, .inl x295]) (st := []) (pc := 80) hwb tq268 (by decide) dX6_learn_80 lkX6_292 imX4_takeStep seX4_takeStep rfl rfl (by decide) (by decide) (Nat.le_of_ble_eq_true rfl) (g_X4_takeStep hN2 hN8 hp0 hp64 hwb q268 tq268 x285 (by omega) (by omega) x290 (by omega) (by omega) x295) (fun rv h296 qh296 => ?_)
              obtain ⟨wh296, fh296, rfl⟩ := qh296
              have hfh296 := hfb.tr fh296
              show TT _ _ _ _ _ _ _ _ [] _
              refine tt_loc [(0, .inr (some q267)), (1, .inr (some q268)), (3, .inl x269)] (List.forall_mem_cons.mpr ⟨(.tail _ (.head _)), List.forall_mem_cons.mpr ⟨(.tail _ (.tail _ (.head _))), List.forall_mem_cons.mpr ⟨(.tail _ (.tail _ (.tail _ (.head _)))), fun _ z => absurd z List.not_mem_nil⟩⟩⟩) ?_
              exact B83 h296 wh296 hfh296 q267 tq267 q268 tq268 x269 (by omega) (by omega) (by omega)
  refine tt_aload_n (pc := 0) dX6_learn_0 (.tail _ (.head _)) ?_
  refine tw_getr (pc := 1) dX6_learn_1 flX6_185 hw ta1 (by decide) rfl (fun f297 q298 ef297 gf297 tq298 => ?_)
  refine tt_aload_n (pc := 4) dX6_learn_4 (.tail _ (.tail _ (.head _))) ?_
  refine tw_geti (pc := 5) dX6_learn_5 flX6_284 hw ta2 (by decide) rfl (fun f299 x300 ef299 gf299 lx300 ux300 => ?_)
  refine tt_aload_n (pc := 8) dX6_learn_8 (.tail _ (.tail _ (.head _))) ?_
  refine tw_ast (r2 := 0) (P := PX) (pc := 9) dX6_learn_9 hw tq298 rfl (by decide) ta2 (by decide) rfl rfl (by omega) (by omega) (by decide) (fun f301 h302 eh302 gh302 kh302 wh302 fh302 => ?_)
  have hfh302 := hf.tr fh302
  refine tt_aload_n (pc := 10) dX6_learn_10 (.tail _ (.head _)) ?_
  refine tw_callV (kc := 0) (ks := 0) (mc := 0) (ms := 0) (as := []) (st := []) (pc := 11) wh302 ta1 (by decide) dX6_learn_11 lkX6_285 imX4_forgetDistances seX4_forgetDistances rfl rfl (by decide) (by decide) (Nat.le_of_ble_eq_true rfl) (g_X4_forgetDistances hN2 hN8 hp0 hp64 wh302 a1 ta1) (fun rv h303 qh303 => ?_)
  obtain ⟨wh303, fh303, rfl⟩ := qh303
  have hfh303 := hfh302.tr fh303
  show TT _ _ _ _ _ _ _ _ [] _
  refine tw_iconst (pc := 14) dX6_learn_14 (by decide) (fun x304 ex304 => ?_)
  refine tt_istore_n (pc := 15) dX6_learn_15 (by decide) ?_
  show TT _ _ _ _ _ _ _ [(3, .inl x304), (0, .inr (some a0)), (1, .inr (some a1)), (2, .inr (some a2))] _ _
  refine tt_loc [(0, .inr (some a0)), (1, .inr (some a1)), (3, .inl x304)] (List.forall_mem_cons.mpr ⟨(.tail _ (.head _)), List.forall_mem_cons.mpr ⟨(.tail _ (.tail _ (.head _))), List.forall_mem_cons.mpr ⟨(.head _), fun _ z => absurd z List.not_mem_nil⟩⟩⟩) ?_
  exact B16 13 h303 wh303 hfh303 a0 ta0 a1 ta1 x304 (by omega) (by omega) (by omega)
abbrev mX6_hop : tM := (RX6, cX6_hop, 6, 1, 22, false)
set_option maxHeartbeats 4000000 in
theorem g_X6_hop {l : Launch} {D : va_G} {N : Nat} {pk : Int} {τ : List Nat} (hN2 : 2 ≤ N) (hN8 : N ≤ 8) (hp0 : 0 ≤ pk) (hp64 : pk ≤ 64) {h : List tC} (hw : WT N pk τ h) (a0 : Nat) (ta0 : τ[a0]? = some 6) (a1 : Nat) (ta1 : τ[a1]? = some 4) (a2 : Int32) (la2 : 0 ≤ a2.toInt) (ua2 : a2.toInt ≤ 7) : TMc l D yX6_hop cX6_hop 6 (some .int) 1 22 0 0 [.inr (some a0), .inr (some a1), .inl a2] h (fun rv h' => h = h' ∧ ∃ x : Int32, rv = some (.inl x) ∧ -1 ≤ x.toInt ∧ x.toInt ≤ 11) := by
  refine tmc_of false rfl (by decide) (Nat.le_of_ble_eq_true rfl) ?_
  suffices HQ : ∀ Q0, Q0 = tRt cX6_hop (some .int) (fun rv h' => h = h' ∧ ∃ x : Int32, rv = some (.inl x) ∧ -1 ≤ x.toInt ∧ x.toInt ≤ 11) → TT l D mX6_hop Q0 0 0 0 [(0, .inr (some a0)), (1, .inr (some a1)), (2, .inl a2)] [] h from HQ _ rfl
  intro Q0 hQ
  have B31 : ∀ (n31 : Nat) (q342 : Nat) (tq342 : τ[q342]? = some 6) (q343 : Nat) (tq343 : τ[q343]? = some 4) (x344 : Int32) (lx344 : 0 ≤ x344.toInt) (ux344 : x344.toInt ≤ 7) (x345 : Int32) (lx345 : -2147483648 ≤ x345.toInt) (ux345 : x345.toInt ≤ 999999) (x346 : Int32) (lx346 : 0 ≤ x346.toInt) (ux346 : x346.toInt ≤ 12), 12 - x346.toInt < n31 → TT l D mX6_hop Q0 0 0 31 [(0, .inr (some q342)), (1, .inr (some q343)), (2, .inl x344), (3, .inl x345), (4, .inl x346)] [] h := by
    intro n31
    induction n31 with
    | zero =>
      intro q342 tq342 q343 tq343 x344 lx344 ux344 x345 lx345 ux345 x346 lx346 ux346 hn31
      exfalso
      omega
    | succ n31 ih31 =>
      intro q342 tq342 q343 tq343 x344 lx344 ux344 x345 lx345 ux345 x346 lx346 ux346 hn31
      have B101 : ∀ (q347 : Nat) (tq347 : τ[q347]? = some 6) (q348 : Nat) (tq348 : τ[q348]? = some 4) (x349 : Int32) (lx349 : 0 ≤ x349.toInt) (ux349 : x349.toInt ≤ 7) (x350 : Int32) (lx350 : -2147483648 ≤ x350.toInt) (ux350 : x350.toInt ≤ 999999) (x351 : Int32) (lx351 : 0 ≤ x351.toInt) (ux351 : x351.toInt ≤ 11) (hn31 : 12 - x351.toInt < ((n31 + 1 : Nat) : Int)), TT l D mX6_hop Q0 0 0 101 [(0, .inr (some q347)), (1, .inr (some q348)), (2, .inl x349), (3, .inl x350), (4, .inl x351)] [] h := by
        intro q347 tq347 q348 tq348 x349 lx349 ux349 x350 lx350 ux350 x351 lx351 ux351 hn31
        refine tw_iinc (pc := 101) dX6_hop_101 (.tail _ (.tail _ (.tail _ (.tail _ (.head _))))) (by decide) (by decide) (by omega) (fun x352 ex352 => ?_)
        show TT _ _ _ _ _ _ _ [(4, .inl x352), (0, .inr (some q347)), (1, .inr (some q348)), (2, .inl x349), (3, .inl x350)] _ _
        refine tt_goto (tgt := 31) (pc := 104) dX6_hop_104 (by decide) ?_
        refine tt_loc [(0, .inr (some q347)), (1, .inr (some q348)), (2, .inl x349), (3, .inl x350), (4, .inl x352)] (List.forall_mem_cons.mpr ⟨(.tail _ (.head _)), List.forall_mem_cons.mpr ⟨(.tail _ (.tail _ (.head _))), List.forall_mem_cons.mpr ⟨(.tail _ (.tail _ (.tail _ (.head _)))), List.forall_mem_cons.mpr ⟨(.tail _ (.tail _ (.tail _ (.tail _ (.head _))))), List.forall_mem_cons.mpr ⟨(.head _), fun _ z => absurd z List.not_mem_nil⟩⟩⟩⟩⟩) ?_
        exact ih31 q347 tq347 q348 tq348 x349 (by omega) (by omega) x350 (by omega) (by omega) x352 (by omega) (by omega) (by omega)
      refine tt_iload (pc := 31) dX6_hop_31 (.tail _ (.tail _ (.tail _ (.tail _ (.head _))))) ?_
      refine tw_bipush (pc := 33) dX6_hop_33 (by decide) (fun x353 ex353 => ?_)
      refine tw_icmp (tgt := 107) (pc := 35) dX6_hop_35 (by decide) (fun (c354 : x353.toInt ≤ x346.toInt) => ?_) (fun (c354 : ¬ (x353.toInt ≤ x346.toInt)) => ?_)
      · skip
        refine tw_iconst (pc := 107) dX6_hop_107 (by decide) (fun x355 ex355 => ?_)
        refine tt_stop ?_
        rw [hQ]
        exact Or.inr (Or.inl ⟨x355, dX6_hop_108, rfl, Or.inl rfl, rfl, x355, rfl, by omega, by omega⟩)
      · skip
        refine tt_aload_n (pc := 38) dX6_hop_38 (.head _) ?_
        refine tw_getr (pc := 39) dX6_hop_39 flX6_11 hw tq342 (by decide) rfl (fun f356 q357 ef356 gf356 tq357 => ?_)
        refine tt_iload (pc := 42) dX6_hop_42 (.tail _ (.tail _ (.tail _ (.tail _ (.head _))))) ?_
        refine tw_ald (pc := 44) dX6_hop_44 hw tq357 rfl (by decide) (by omega) (by omega) (fun f358 q359 ef358 gf358 tq359 => ?_)
        refine tt_astore (pc := 45) dX6_hop_45 (by decide) ?_
        show TT _ _ _ _ _ _ _ [(5, .inr (some q359)), (0, .inr (some q342)), (1, .inr (some q343)), (2, .inl x344), (3, .inl x345), (4, .inl x346)] _ _
        refine tt_aload (pc := 47) dX6_hop_47 (.head _) ?_
        refine tt_aload_n (pc := 49) dX6_hop_49 (.tail _ (.tail _ (.head _))) ?_
        refine tw_geti (pc := 50) dX6_hop_50 flX6_249 hw tq343 (by decide) rfl (fun f360 x361 ef360 gf360 lx361 ux361 => ?_)
        refine tw_callV (kc := 0) (ks := 0) (mc := 0) (ms := 0) (as := [.inl x361]) (st := []) (pc := 53) hw tq359 (by decide) dX6_hop_53 lkX6_273 imX0_isUpAt seX0_isUpAt rfl rfl (by decide) (by decide) (Nat.le_of_ble_eq_true rfl) (g_X0_isUpAt hN2 hN8 hp0 hp64 hw q359 tq359 x361) (fun rv h362 qh362 => ?_)
        obtain ⟨rfl, x363, rfl, lx363, ux363⟩ := qh362
        show TT _ _ _ _ _ _ _ _ [.inl x363] _
        refine tw_if (tgt := 101) (pc := 56) dX6_hop_56 (by decide) (fun (c364 : x363.toInt = 0) => ?_) (fun (c364 : ¬ (x363.toInt = 0)) => ?_)
        · skip
          refine tt_loc [(0, .inr (some q342)), (1, .inr (some q343)), (2, .inl x344), (3, .inl x345), (4, .inl x346)] (List.forall_mem_cons.mpr ⟨(.tail _ (.head _)), List.forall_mem_cons.mpr ⟨(.tail _ (.tail _ (.head _))), List.forall_mem_cons.mpr ⟨(.tail _ (.tail _ (.tail _ (.head _)))), List.forall_mem_cons.mpr ⟨(.tail _ (.tail _ (.tail _ (.tail _ (.head _))))), List.forall_mem_cons.mpr ⟨(.tail _ (.tail _ (.tail _ (.tail _ (.tail _ (.head _)))))), fun _ z => absurd z List.not_mem_nil⟩⟩⟩⟩⟩) ?_
          exact B101 q342 tq342 q343 tq343 x344 (by omega) (by omega) x345 (by omega) (by omega) x346 (by omega) (by omega) (by omega)
        · skip
          refine tt_aload_n (pc := 59) dX6_hop_59 (.tail _ (.tail _ (.head _))) ?_
          refine tt_aload_n (pc := 60) dX6_hop_60 (.tail _ (.tail _ (.head _))) ?_
          refine tt_get (pc := 61) dX6_hop_61 flX6_249 ef360 gf360 ?_
          refine tt_iload (pc := 64) dX6_hop_64 (.tail _ (.tail _ (.tail _ (.tail _ (.tail _ (.head _)))))) ?_
          refine tw_callV (kc := 0) (ks := 0) (mc := 0) (ms := 0) (as := [.inl x361, .inl x346]) (st := []) (pc := 66) hw tq343 (by decide) dX6_hop_66 lkX6_288 imX4_knowsUp seX4_knowsUp rfl rfl (by decide) (by decide) (Nat.le_of_ble_eq_true rfl) (g_X4_knowsUp hN2 hN8 hp0 hp64 hw q343 tq343 x361 (by omega) (by omega) x346) (fun rv h365 qh365 => ?_)
          obtain ⟨rfl, x366, rfl, lx366, ux366⟩ := qh365
          show TT _ _ _ _ _ _ _ _ [.inl x366] _
          refine tw_if (tgt := 101) (pc := 69) dX6_hop_69 (by decide) (fun (c367 : x366.toInt = 0) => ?_) (fun (c367 : ¬ (x366.toInt = 0)) => ?_)
          · skip
            refine tt_loc [(0, .inr (some q342)), (1, .inr (some q343)), (2, .inl x344), (3, .inl x345), (4, .inl x346)] (List.forall_mem_cons.mpr ⟨(.tail _ (.head _)), List.forall_mem_cons.mpr ⟨(.tail _ (.tail _ (.head _))), List.forall_mem_cons.mpr ⟨(.tail _ (.tail _ (.tail _ (.head _)))), List.forall_mem_cons.mpr ⟨(.tail _ (.tail _ (.tail _ (.tail _ (.head _))))), List.forall_mem_cons.mpr ⟨(.tail _ (.tail _ (.tail _ (.tail _ (.tail _ (.head _)))))), fun _ z => absurd z List.not_mem_nil⟩⟩⟩⟩⟩) ?_
            exact B101 q342 tq342 q343 tq343 x344 (by omega) (by omega) x345 (by omega) (by omega) x346 (by omega) (by omega) (by omega)
          · skip
            refine tt_aload (pc := 72) dX6_hop_72 (.head _) ?_
            refine tw_geti (pc := 74) dX6_hop_74 flX6_87 hw tq359 (by decide) rfl (fun f368 x369 ef368 gf368 lx369 ux369 => ?_)
            refine tt_aload_n (pc := 77) dX6_hop_77 (.tail _ (.tail _ (.head _))) ?_
            refine tw_getr (pc := 78) dX6_hop_78 flX6_194 hw tq343 (by decide) rfl (fun f370 q371 ef370 gf370 tq371 => ?_)
            refine tt_aload (pc := 81) dX6_hop_81 (.head _) ?_
            refine tt_aload_n (pc := 83) dX6_hop_83 (.tail _ (.tail _ (.head _))) ?_
            refine tt_get (pc := 84) dX6_hop_84 flX6_249 ef360 gf360 ?_
            refine tw_callV (kc := 0) (ks := 0) (mc := 0) (ms := 0) (as := [.inl x361]) (st := [.inr (some q371), .inl x369]) (pc := 87) hw tq359 (by decide) dX6_hop_87 lkX6_299 imX0_otherEnd seX0_otherEnd rfl rfl (by decide) (by decide) (Nat.le_of_ble_eq_true rfl) (g_X0_otherEnd hN2 hN8 hp0 hp64 hw q359 tq359 x361) (fun rv h372 qh372 => ?_)
            obtain ⟨rfl, x373, rfl, lx373, ux373⟩ := qh372
            show TT _ _ _ _ _ _ _ _ [.inl x373, .inr (some q371), .inl x369] _
            refine tw_ald (pc := 90) dX6_hop_90 hw tq371 rfl (by decide) (by omega) (by omega) (fun f374 q375 ef374 gf374 tq375 => ?_)
            refine tt_iload_n (pc := 91) dX6_hop_91 (.tail _ (.tail _ (.tail _ (.head _)))) ?_
            refine tw_ild (pc := 92) dX6_hop_92 hw tq375 rfl (by omega) (by omega) (fun f377 x376 ef377 gf377 lx376 ux376 => ?_)
            refine tt_iadd (pc := 93) dX6_hop_93 ?_
            refine tw_any (fun x378 => ?_)
            have bx378 := i_ty x378
            refine tt_iload_n (pc := 94) dX6_hop_94 (.tail _ (.tail _ (.tail _ (.tail _ (.head _))))) ?_
            refine tw_icmp (tgt := 101) (pc := 95) dX6_hop_95 (by decide) (fun (c379 : x378.toInt ≠ x345.toInt) => ?_) (fun (c379 : ¬ (x378.toInt ≠ x345.toInt)) => ?_)
            · skip
              refine tt_loc [(0, .inr (some q342)), (1, .inr (some q343)), (2, .inl x344), (3, .inl x345), (4, .inl x346)] (List.forall_mem_cons.mpr ⟨(.tail _ (.head _)), List.forall_mem_cons.mpr ⟨(.tail _ (.tail _ (.head _))), List.forall_mem_cons.mpr ⟨(.tail _ (.tail _ (.tail _ (.head _)))), List.forall_mem_cons.mpr ⟨(.tail _ (.tail _ (.tail _ (.tail _ (.head _))))), List.forall_mem_cons.mpr ⟨(.tail _ (.tail _ (.tail _ (.tail _ (.tail _ (.head _)))))), fun _ z => absurd z List.not_mem_nil⟩⟩⟩⟩⟩) ?_
              exact B101 q342 tq342 q343 tq343 x344 (by omega) (by omega) x345 (by omega) (by omega) x346 (by omega) (by omega) (by omega)
            · skip
              refine tt_iload (pc := 98) dX6_hop_98 (.tail _ (.tail _ (.tail _ (.tail _ (.tail _ (.head _)))))) ?_
              refine tt_stop ?_
              rw [hQ]
              exact Or.inr (Or.inl ⟨x346, dX6_hop_100, rfl, Or.inl rfl, rfl, x346, rfl, by omega, by omega⟩)
  have B26 : TT l D mX6_hop Q0 0 0 26 [] [] h := by
    refine tw_iconst (pc := 26) dX6_hop_26 (by decide) (fun x380 ex380 => ?_)
    refine tt_stop ?_
    rw [hQ]
    exact Or.inr (Or.inl ⟨x380, dX6_hop_27, rfl, Or.inl rfl, rfl, x380, rfl, by omega, by omega⟩)
  refine tt_aload_n (pc := 0) dX6_hop_0 (.tail _ (.head _)) ?_
  refine tw_getr (pc := 1) dX6_hop_1 flX6_194 hw ta1 (by decide) rfl (fun f381 q382 ef381 gf381 tq382 => ?_)
  refine tt_aload_n (pc := 4) dX6_hop_4 (.tail _ (.head _)) ?_
  refine tw_geti (pc := 5) dX6_hop_5 flX6_249 hw ta1 (by decide) rfl (fun f383 x384 ef383 gf383 lx384 ux384 => ?_)
  refine tw_ald (pc := 8) dX6_hop_8 hw tq382 rfl (by decide) (by omega) (by omega) (fun f385 q386 ef385 gf385 tq386 => ?_)
  refine tt_iload_n (pc := 9) dX6_hop_9 (.tail _ (.tail _ (.head _))) ?_
  refine tw_ild (pc := 10) dX6_hop_10 hw tq386 rfl (by omega) (by omega) (fun f388 x387 ef388 gf388 lx387 ux387 => ?_)
  refine tt_istore_n (pc := 11) dX6_hop_11 (by decide) ?_
  show TT _ _ _ _ _ _ _ [(3, .inl x387), (0, .inr (some a0)), (1, .inr (some a1)), (2, .inl a2)] _ _
  refine tt_iload_n (pc := 12) dX6_hop_12 (.tail _ (.tail _ (.tail _ (.head _)))) ?_
  refine tt_aload_n (pc := 13) dX6_hop_13 (.tail _ (.tail _ (.head _))) ?_
  refine tt_get (pc := 14) dX6_hop_14 flX6_249 ef383 gf383 ?_
  refine tw_icmp (tgt := 26) (pc := 17) dX6_hop_17 (by decide) (fun (c389 : a2.toInt = x384.toInt) => ?_) (fun (c389 : ¬ (a2.toInt = x384.toInt)) => ?_)
  · skip
    refine tt_loc [] (fun _ z => absurd z List.not_mem_nil) ?_
    exact B26 
  · skip
    refine tt_iload_n (pc := 20) dX6_hop_20 (.head _) ?_
    refine tw_ldc (n := 1000000) (pc := 21) dX6_hop_21 rfl kcX6_198 (by decide) (fun x390 ex390 => ?_)
    refine tw_icmp (tgt := 28) (pc := 23) dX6_hop_23 (by decide) (fun (c391 : x387.toInt < x390.toInt) => ?_) (fun (c391 : ¬ (x387.toInt < x390.toInt)) => ?_)
    · skip
      refine tw_iconst (pc := 28) dX6_hop_28 (by decide) (fun x392 ex392 => ?_)
      refine tt_istore (pc := 29) dX6_hop_29 (by decide) ?_
      show TT _ _ _ _ _ _ _ [(4, .inl x392), (3, .inl x387), (0, .inr (some a0)), (1, .inr (some a1)), (2, .inl a2)] _ _
      refine tt_loc [(0, .inr (some a0)), (1, .inr (some a1)), (2, .inl a2), (3, .inl x387), (4, .inl x392)] (List.forall_mem_cons.mpr ⟨(.tail _ (.tail _ (.head _))), List.forall_mem_cons.mpr ⟨(.tail _ (.tail _ (.tail _ (.head _)))), List.forall_mem_cons.mpr ⟨(.tail _ (.tail _ (.tail _ (.tail _ (.head _))))), List.forall_mem_cons.mpr ⟨(.tail _ (.head _)), List.forall_mem_cons.mpr ⟨(.head _), fun _ z => absurd z List.not_mem_nil⟩⟩⟩⟩⟩) ?_
      exact B31 13 a0 ta0 a1 ta1 a2 (by omega) (by omega) x387 (by omega) (by omega) x392 (by omega) (by omega) (by omega)
    · skip
      refine tt_loc [] (fun _ z => absurd z List.not_mem_nil) ?_
      exact B26 
abbrev mX6_hopToEgress : tM := (RX6, cX6_hopToEgress, 4, 2, 47, false)
set_option maxHeartbeats 4000000 in
theorem g_X6_hopToEgress {l : Launch} {D : va_G} {N : Nat} {pk : Int} {τ : List Nat} (hN2 : 2 ≤ N) (hN8 : N ≤ 8) (hp0 : 0 ≤ pk) (hp64 : pk ≤ 64) {h : List tC} (hw : WT N pk τ h) (a0 : Nat) (ta0 : τ[a0]? = some 6) (a1 : Nat) (ta1 : τ[a1]? = some 4) (a2 : Int32) : TMc l D yX6_hopToEgress cX6_hopToEgress 4 (some .int) 2 47 0 0 [.inr (some a0), .inr (some a1), .inl a2] h (fun rv h' => h = h' ∧ ∃ x : Int32, rv = some (.inl x) ∧ -1 ≤ x.toInt ∧ x.toInt ≤ 11) := by
  refine tmc_of false rfl (by decide) (Nat.le_of_ble_eq_true rfl) ?_
  suffices HQ : ∀ Q0, Q0 = tRt cX6_hopToEgress (some .int) (fun rv h' => h = h' ∧ ∃ x : Int32, rv = some (.inl x) ∧ -1 ≤ x.toInt ∧ x.toInt ≤ 11) → TT l D mX6_hopToEgress Q0 0 0 0 [(0, .inr (some a0)), (1, .inr (some a1)), (2, .inl a2)] [] h from HQ _ rfl
  intro Q0 hQ
  have ba2 := i_ty a2
  refine tt_aload_n (pc := 0) dX6_hopToEgress_0 (.tail _ (.head _)) ?_
  refine tt_iload_n (pc := 1) dX6_hopToEgress_1 (.tail _ (.tail _ (.head _))) ?_
  refine tw_callV (kc := 0) (ks := 0) (mc := 0) (ms := 0) (as := [.inl a2]) (st := []) (pc := 2) hw ta1 (by decide) dX6_hopToEgress_2 lkX6_203 imX4_egress seX4_egress rfl rfl (by decide) (by decide) (Nat.le_of_ble_eq_true rfl) (g_X4_egress hN2 hN8 hp0 hp64 hw a1 ta1 a2) (fun rv h8 qh8 => ?_)
  obtain ⟨rfl, x9, rfl, lx9, ux9⟩ := qh8
  show TT _ _ _ _ _ _ _ _ [.inl x9] _
  refine tt_istore_n (pc := 5) dX6_hopToEgress_5 (by decide) ?_
  show TT _ _ _ _ _ _ _ [(3, .inl x9), (0, .inr (some a0)), (1, .inr (some a1)), (2, .inl a2)] _ _
  refine tt_iload_n (pc := 6) dX6_hopToEgress_6 (.head _) ?_
  refine tw_iconst (pc := 7) dX6_hopToEgress_7 (by decide) (fun x10 ex10 => ?_)
  refine tw_icmp (tgt := 15) (pc := 8) dX6_hopToEgress_8 (by decide) (fun (c11 : x9.toInt ≠ x10.toInt) => ?_) (fun (c11 : ¬ (x9.toInt ≠ x10.toInt)) => ?_)
  · skip
    refine tt_aload_n (pc := 15) dX6_hopToEgress_15 (.tail _ (.head _)) ?_
    refine tt_aload_n (pc := 16) dX6_hopToEgress_16 (.tail _ (.tail _ (.head _))) ?_
    refine tt_iload_n (pc := 17) dX6_hopToEgress_17 (.head _) ?_
    refine tw_callV (kc := 0) (ks := 0) (mc := 0) (ms := 0) (as := [.inr (some a1), .inl x9]) (st := []) (pc := 18) hw ta0 (by decide) dX6_hopToEgress_18 lkX6_199 imX6_hop seX6_hop rfl rfl (by decide) (by decide) (Nat.le_of_ble_eq_true rfl) (g_X6_hop hN2 hN8 hp0 hp64 hw a0 ta0 a1 ta1 x9 (by omega) (by omega)) (fun rv h12 qh12 => ?_)
    obtain ⟨rfl, x13, rfl, lx13, ux13⟩ := qh12
    show TT _ _ _ _ _ _ _ _ [.inl x13] _
    refine tt_stop ?_
    rw [hQ]
    exact Or.inr (Or.inl ⟨x13, dX6_hopToEgress_21, rfl, Or.inl rfl, rfl, x13, rfl, by omega, by omega⟩)
  · skip
    refine tw_iconst (pc := 11) dX6_hopToEgress_11 (by decide) (fun x14 ex14 => ?_)
    refine tt_goto (tgt := 21) (pc := 12) dX6_hopToEgress_12 (by decide) ?_
    refine tt_stop ?_
    rw [hQ]
    exact Or.inr (Or.inl ⟨x14, dX6_hopToEgress_21, rfl, Or.inl rfl, rfl, x14, rfl, by omega, by omega⟩)
abbrev mX6_put : tM := (RX6, cX6_put, 5, 1, 21, false)
set_option maxHeartbeats 4000000 in
theorem g_X6_put {l : Launch} {D : va_G} {N : Nat} {pk : Int} {τ : List Nat} (hN2 : 2 ≤ N) (hN8 : N ≤ 8) (hp0 : 0 ≤ pk) (hp64 : pk ≤ 64) {h : List tC} (hw : WT N pk τ h) (a0 : Nat) (ta0 : τ[a0]? = some 6) (a1 : Nat) (ta1 : τ[a1]? = some 4) (a2 : Int32) (la2 : 0 ≤ a2.toInt) (ua2 : a2.toInt ≤ 11) (a3 : Nat) (ta3 : τ[a3]? = some 1) : TMc l D yX6_put cX6_put 5 (some .boolean) 1 21 0 0 [.inr (some a0), .inr (some a1), .inl a2, .inr (some a3)] h (fun rv h' => WT N pk τ h' ∧ Fr PX τ h h' ∧ ∃ x : Int32, rv = some (.inl x) ∧ 0 ≤ x.toInt ∧ x.toInt ≤ 1) := by
  refine tmc_of false rfl (by decide) (Nat.le_of_ble_eq_true rfl) ?_
  suffices HQ : ∀ Q0, Q0 = tRt cX6_put (some .boolean) (fun rv h' => WT N pk τ h' ∧ Fr PX τ h h' ∧ ∃ x : Int32, rv = some (.inl x) ∧ 0 ≤ x.toInt ∧ x.toInt ≤ 1) → TT l D mX6_put Q0 0 0 0 [(0, .inr (some a0)), (1, .inr (some a1)), (2, .inl a2), (3, .inr (some a3))] [] h from HQ _ rfl
  intro Q0 hQ
  have hf : Fr PX τ h h := Fr.rf
  have B74 : ∀ (hb : List tC) (hwb : WT N pk τ hb) (hfb : Fr PX τ h hb), TT l D mX6_put Q0 0 0 74 [] [] hb := by
    intro hb hwb hfb
    refine tw_iconst (pc := 74) dX6_put_74 (by decide) (fun x50 ex50 => ?_)
    refine tt_stop ?_
    rw [hQ]
    exact Or.inr (Or.inl ⟨x50, dX6_put_75, rfl, Or.inr ⟨rfl, bool01 (by omega) (by omega)⟩, hwb, hfb, x50, rfl, by omega, by omega⟩)
  have B33 : ∀ (hb : List tC) (hwb : WT N pk τ hb) (hfb : Fr PX τ h hb) (q51 : Nat) (tq51 : τ[q51]? = some 6) (q52 : Nat) (tq52 : τ[q52]? = some 4) (x53 : Int32) (lx53 : 0 ≤ x53.toInt) (ux53 : x53.toInt ≤ 11) (q54 : Nat) (tq54 : τ[q54]? = some 1), TT l D mX6_put Q0 0 0 33 [(0, .inr (some q51)), (1, .inr (some q52)), (2, .inl x53), (3, .inr (some q54))] [] hb := by
    intro hb hwb hfb q51 tq51 q52 tq52 x53 lx53 ux53 q54 tq54
    refine tt_aload_n (pc := 33) dX6_put_33 (.head _) ?_
    refine tw_getr (pc := 34) dX6_put_34 flX6_11 hwb tq51 (by decide) rfl (fun f55 q56 ef55 gf55 tq56 => ?_)
    refine tt_iload_n (pc := 37) dX6_put_37 (.tail _ (.tail _ (.head _))) ?_
    refine tw_ald (pc := 38) dX6_put_38 hwb tq56 rfl (by decide) (by omega) (by omega) (fun f57 q58 ef57 gf57 tq58 => ?_)
    refine tt_aload_n (pc := 39) dX6_put_39 (.tail _ (.head _)) ?_
    refine tw_geti (pc := 40) dX6_put_40 flX6_249 hwb tq52 (by decide) rfl (fun f59 x60 ef59 gf59 lx60 ux60 => ?_)
    refine tw_callV (kc := 0) (ks := 0) (mc := 0) (ms := 0) (as := [.inl x60]) (st := []) (pc := 43) hwb tq58 (by decide) dX6_put_43 lkX6_308 imX0_queueOf seX0_queueOf rfl rfl (by decide) (by decide) (Nat.le_of_ble_eq_true rfl) (g_X0_queueOf hN2 hN8 hp0 hp64 hwb q58 tq58 x60) (fun rv h61 qh61 => ?_)
    obtain ⟨rfl, q62, rfl, tq62⟩ := qh61
    show TT _ _ _ _ _ _ _ _ [.inr (some q62)] _
    refine tw_callV (kc := 0) (ks := 0) (mc := 0) (ms := 0) (as := []) (st := []) (pc := 46) hwb tq62 (by decide) dX6_put_46 lkX6_312 imX2_nextFree seX2_nextFree rfl rfl (by decide) (by decide) (Nat.le_of_ble_eq_true rfl) (g_X2_nextFree hN2 hN8 hp0 hp64 hwb q62 tq62) (fun rv h63 qh63 => ?_)
    obtain ⟨wh63, fh63, o64, rfl, to64⟩ := qh63
    have hfh63 := hfb.tr fh63
    show TT _ _ _ _ _ _ _ _ [.inr o64] _
    refine tt_astore (pc := 49) dX6_put_49 (by decide) ?_
    show TT _ _ _ _ _ _ _ [(4, .inr o64), (0, .inr (some q51)), (1, .inr (some q52)), (2, .inl x53), (3, .inr (some q54))] _ _
    refine tt_aload (pc := 51) dX6_put_51 (.head _) ?_
    refine tt_ifnonnull (tgt := 76) (pc := 53) dX6_put_53 (by decide) (fun q66 z65 => ?_) (fun z65 => ?_)
    · have tq66 := to64 q66 z65
      subst z65
      refine tt_aload (pc := 76) dX6_put_76 (.head _) ?_
      refine tt_aload_n (pc := 78) dX6_put_78 (.tail _ (.tail _ (.tail _ (.tail _ (.head _))))) ?_
      refine tw_callV (kc := 0) (ks := 0) (mc := 0) (ms := 0) (as := [.inr (some q54)]) (st := []) (pc := 79) wh63 tq66 (by decide) dX6_put_79 lkX6_316 imX1_copy seX1_copy rfl rfl (by decide) (by decide) (Nat.le_of_ble_eq_true rfl) (g_X1_copy hN2 hN8 hp0 hp64 wh63 q66 tq66 q54 tq54) (fun rv h67 qh67 => ?_)
      obtain ⟨wh67, fh67, rfl⟩ := qh67
      have hfh67 := hfh63.tr fh67
      show TT _ _ _ _ _ _ _ _ [] _
      refine tw_iconst (pc := 82) dX6_put_82 (by decide) (fun x68 ex68 => ?_)
      refine tt_stop ?_
      rw [hQ]
      exact Or.inr (Or.inl ⟨x68, dX6_put_83, rfl, Or.inr ⟨rfl, bool01 (by omega) (by omega)⟩, wh67, hfh67, x68, rfl, by omega, by omega⟩)
    · subst z65
      refine tt_aload_n (pc := 56) dX6_put_56 (.tail _ (.tail _ (.tail _ (.tail _ (.head _))))) ?_
      refine tw_geti (pc := 57) dX6_put_57 flX6_246 wh63 tq54 (by decide) rfl (fun f69 x70 ef69 gf69 lx70 ux70 => ?_)
      refine tw_iconst (pc := 60) dX6_put_60 (by decide) (fun x71 ex71 => ?_)
      refine tw_icmp (tgt := 74) (pc := 61) dX6_put_61 (by decide) (fun (c72 : x70.toInt = x71.toInt) => ?_) (fun (c72 : ¬ (x70.toInt = x71.toInt)) => ?_)
      · skip
        refine tt_loc [] (fun _ z => absurd z List.not_mem_nil) ?_
        exact B74 h63 wh63 hfh63
      · skip
        refine tt_aload_n (pc := 64) dX6_put_64 (.tail _ (.head _)) ?_
        refine tt_dup (pc := 65) dX6_put_65 ?_
        refine tw_geti (pc := 66) dX6_put_66 flX6_29 wh63 tq51 (by decide) rfl (fun f73 x74 ef73 gf73 lx74 ux74 => ?_)
        refine tw_iconst (pc := 69) dX6_put_69 (by decide) (fun x75 ex75 => ?_)
        refine tt_iadd (pc := 70) dX6_put_70 ?_
        refine tw_any (fun x76 => ?_)
        have bx76 := i_ty x76
        refine tw_put (P := PX) (pc := 71) dX6_put_71 flX6_29 wh63 tq51 (by decide) rfl ⟨by omega, by omega⟩ rfl (by decide) (by decide) (fun f77 h78 eh78 gh78 kh78 wh78 fh78 => ?_)
        have hfh78 := hfh63.tr fh78
        refine tt_loc [] (fun _ z => absurd z List.not_mem_nil) ?_
        exact B74 h78 wh78 hfh78
  refine tt_aload_n (pc := 0) dX6_put_0 (.tail _ (.tail _ (.tail _ (.head _)))) ?_
  refine tw_geti (pc := 1) dX6_put_1 flX6_246 hw ta3 (by decide) rfl (fun f79 x80 ef79 gf79 lx80 ux80 => ?_)
  refine tw_iconst (pc := 4) dX6_put_4 (by decide) (fun x81 ex81 => ?_)
  refine tw_icmp (tgt := 33) (pc := 5) dX6_put_5 (by decide) (fun (c82 : x80.toInt ≠ x81.toInt) => ?_) (fun (c82 : ¬ (x80.toInt ≠ x81.toInt)) => ?_)
  · skip
    refine tt_loc [(0, .inr (some a0)), (1, .inr (some a1)), (2, .inl a2), (3, .inr (some a3))] (List.forall_mem_cons.mpr ⟨(.head _), List.forall_mem_cons.mpr ⟨(.tail _ (.head _)), List.forall_mem_cons.mpr ⟨(.tail _ (.tail _ (.head _))), List.forall_mem_cons.mpr ⟨(.tail _ (.tail _ (.tail _ (.head _)))), fun _ z => absurd z List.not_mem_nil⟩⟩⟩⟩) ?_
    exact B33 h hw hf a0 ta0 a1 ta1 a2 (by omega) (by omega) a3 ta3
  · skip
    refine tt_aload_n (pc := 8) dX6_put_8 (.tail _ (.tail _ (.tail _ (.head _)))) ?_
    refine tw_geti (pc := 9) dX6_put_9 flX6_179 hw ta3 (by decide) rfl (fun f83 x84 ef83 gf83 lx84 ux84 => ?_)
    refine tt_callS (kc := 0) (ks := 0) (mc := 0) (ms := 0) (as := [.inl x84]) (st := []) (pc := 12) dX6_put_12 lkX6_302 smX4_isOwnLabel rfl (by decide) (by decide) (Nat.le_of_ble_eq_true rfl) (g_X4_isOwnLabel hN2 hN8 hp0 hp64 hw x84) (fun rv h85 qh85 => ?_)
    obtain ⟨rfl, x86, rfl, lx86, ux86, Gx86⟩ := qh85
    show TT _ _ _ _ _ _ _ _ [.inl x86] _
    refine tw_if (tgt := 33) (pc := 15) dX6_put_15 (by decide) (fun (c89 : x86.toInt = 0) => ?_) (fun (c89 : ¬ (x86.toInt = 0)) => ?_)
    · skip
      refine tt_loc [(0, .inr (some a0)), (1, .inr (some a1)), (2, .inl a2), (3, .inr (some a3))] (List.forall_mem_cons.mpr ⟨(.head _), List.forall_mem_cons.mpr ⟨(.tail _ (.head _)), List.forall_mem_cons.mpr ⟨(.tail _ (.tail _ (.head _))), List.forall_mem_cons.mpr ⟨(.tail _ (.tail _ (.tail _ (.head _)))), fun _ z => absurd z List.not_mem_nil⟩⟩⟩⟩) ?_
      exact B33 h hw hf a0 ta0 a1 ta1 a2 (by omega) (by omega) a3 ta3
    · obtain ⟨b87, b88⟩ := Gx86 (by omega)
      refine tt_aload_n (pc := 18) dX6_put_18 (.tail _ (.head _)) ?_
      refine tw_getr (pc := 19) dX6_put_19 flX6_305 hw ta1 (by decide) rfl (fun f90 q91 ef90 gf90 tq91 => ?_)
      refine tt_aload_n (pc := 22) dX6_put_22 (.tail _ (.tail _ (.tail _ (.head _)))) ?_
      refine tt_get (pc := 23) dX6_put_23 flX6_179 ef83 gf83 ?_
      refine tt_dup2 (pc := 26) dX6_put_26 ?_
      refine tw_ild (pc := 27) dX6_put_27 hw tq91 rfl (by omega) (by omega) (fun f93 x92 ef93 gf93 lx92 ux92 => ?_)
      refine tw_iconst (pc := 28) dX6_put_28 (by decide) (fun x94 ex94 => ?_)
      refine tt_iload_n (pc := 29) dX6_put_29 (.tail _ (.tail _ (.head _))) ?_
      refine tt_ishl (pc := 30) dX6_put_30 ?_
      refine tw_any (fun x95 => ?_)
      have bx95 := i_ty x95
      refine tt_ior (pc := 31) dX6_put_31 ?_
      refine tw_any (fun x96 => ?_)
      have bx96 := i_ty x96
      refine tw_ist (P := PX) (pc := 32) dX6_put_32 hw tq91 rfl (by omega) (by omega) (by omega) (by omega) (by decide) (fun f97 h98 eh98 gh98 kh98 wh98 fh98 => ?_)
      have hfh98 := hf.tr fh98
      refine tt_loc [(0, .inr (some a0)), (1, .inr (some a1)), (2, .inl a2), (3, .inr (some a3))] (List.forall_mem_cons.mpr ⟨(.head _), List.forall_mem_cons.mpr ⟨(.tail _ (.head _)), List.forall_mem_cons.mpr ⟨(.tail _ (.tail _ (.head _))), List.forall_mem_cons.mpr ⟨(.tail _ (.tail _ (.tail _ (.head _)))), fun _ z => absurd z List.not_mem_nil⟩⟩⟩⟩) ?_
      exact B33 h98 wh98 hfh98 a0 ta0 a1 ta1 a2 (by omega) (by omega) a3 ta3
abbrev mX6_sendOnAll : tM := (RX6, cX6_sendOnAll, 5, 2, 45, false)
set_option maxHeartbeats 4000000 in
theorem g_X6_sendOnAll {l : Launch} {D : va_G} {N : Nat} {pk : Int} {τ : List Nat} (hN2 : 2 ≤ N) (hN8 : N ≤ 8) (hp0 : 0 ≤ pk) (hp64 : pk ≤ 64) {h : List tC} (hw : WT N pk τ h) (a0 : Nat) (ta0 : τ[a0]? = some 6) (a1 : Nat) (ta1 : τ[a1]? = some 4) (a2 : Nat) (ta2 : τ[a2]? = some 1) (a3 : Int32) : TMc l D yX6_sendOnAll cX6_sendOnAll 5 none 2 45 0 0 [.inr (some a0), .inr (some a1), .inr (some a2), .inl a3] h (fun rv h' => WT N pk τ h' ∧ Fr PX τ h h' ∧ rv = none) := by
  refine tmc_of false rfl (by decide) (Nat.le_of_ble_eq_true rfl) ?_
  suffices HQ : ∀ Q0, Q0 = tRt cX6_sendOnAll none (fun rv h' => WT N pk τ h' ∧ Fr PX τ h h' ∧ rv = none) → TT l D mX6_sendOnAll Q0 0 0 0 [(0, .inr (some a0)), (1, .inr (some a1)), (2, .inr (some a2)), (3, .inl a3)] [] h from HQ _ rfl
  intro Q0 hQ
  have hf : Fr PX τ h h := Fr.rf
  have B3 : ∀ (n3 : Nat) (hb : List tC) (hwb : WT N pk τ hb) (hfb : Fr PX τ h hb) (q221 : Nat) (tq221 : τ[q221]? = some 6) (q222 : Nat) (tq222 : τ[q222]? = some 4) (q223 : Nat) (tq223 : τ[q223]? = some 1) (x224 : Int32) (x225 : Int32) (lx225 : 0 ≤ x225.toInt) (ux225 : x225.toInt ≤ 12), 12 - x225.toInt < n3 → TT l D mX6_sendOnAll Q0 0 0 3 [(0, .inr (some q221)), (1, .inr (some q222)), (2, .inr (some q223)), (3, .inl x224), (4, .inl x225)] [] hb := by
    intro n3
    induction n3 with
    | zero =>
      intro hb hwb hfb q221 tq221 q222 tq222 q223 tq223 x224 x225 lx225 ux225 hn3
      exfalso
      omega
    | succ n3 ih3 =>
      intro hb hwb hfb q221 tq221 q222 tq222 q223 tq223 x224 x225 lx225 ux225 hn3
      have bx224 := i_ty x224
      have B42 : ∀ (hb : List tC) (hwb : WT N pk τ hb) (hfb : Fr PX τ h hb) (q226 : Nat) (tq226 : τ[q226]? = some 6) (q227 : Nat) (tq227 : τ[q227]? = some 4) (q228 : Nat) (tq228 : τ[q228]? = some 1) (x229 : Int32) (x230 : Int32) (lx230 : 0 ≤ x230.toInt) (ux230 : x230.toInt ≤ 11) (hn3 : 12 - x230.toInt < ((n3 + 1 : Nat) : Int)), TT l D mX6_sendOnAll Q0 0 0 42 [(0, .inr (some q226)), (1, .inr (some q227)), (2, .inr (some q228)), (3, .inl x229), (4, .inl x230)] [] hb := by
        intro hb hwb hfb q226 tq226 q227 tq227 q228 tq228 x229 x230 lx230 ux230 hn3
        have bx229 := i_ty x229
        refine tw_iinc (pc := 42) dX6_sendOnAll_42 (.tail _ (.tail _ (.tail _ (.tail _ (.head _))))) (by decide) (by decide) (by omega) (fun x231 ex231 => ?_)
        show TT _ _ _ _ _ _ _ [(4, .inl x231), (0, .inr (some q226)), (1, .inr (some q227)), (2, .inr (some q228)), (3, .inl x229)] _ _
        refine tt_goto (tgt := 3) (pc := 45) dX6_sendOnAll_45 (by decide) ?_
        refine tt_loc [(0, .inr (some q226)), (1, .inr (some q227)), (2, .inr (some q228)), (3, .inl x229), (4, .inl x231)] (List.forall_mem_cons.mpr ⟨(.tail _ (.head _)), List.forall_mem_cons.mpr ⟨(.tail _ (.tail _ (.head _))), List.forall_mem_cons.mpr ⟨(.tail _ (.tail _ (.tail _ (.head _)))), List.forall_mem_cons.mpr ⟨(.tail _ (.tail _ (.tail _ (.tail _ (.head _))))), List.forall_mem_cons.mpr ⟨(.head _), fun _ z => absurd z List.not_mem_nil⟩⟩⟩⟩⟩) ?_
        exact ih3 hb hwb hfb q226 tq226 q227 tq227 q228 tq228 x229 x231 (by omega) (by omega) (by omega)
      refine tt_iload (pc := 3) dX6_sendOnAll_3 (.tail _ (.tail _ (.tail _ (.tail _ (.head _))))) ?_
      refine tw_bipush (pc := 5) dX6_sendOnAll_5 (by decide) (fun x232 ex232 => ?_)
      refine tw_icmp (tgt := 48) (pc := 7) dX6_sendOnAll_7 (by decide) (fun (c233 : x232.toInt ≤ x225.toInt) => ?_) (fun (c233 : ¬ (x232.toInt ≤ x225.toInt)) => ?_)
      · skip
        refine tt_stop ?_
        rw [hQ]
        exact Or.inl ⟨dX6_sendOnAll_48, rfl, rfl, hwb, hfb, rfl⟩
      · skip
        refine tt_iload (pc := 10) dX6_sendOnAll_10 (.tail _ (.tail _ (.tail _ (.tail _ (.head _))))) ?_
        refine tt_iload_n (pc := 12) dX6_sendOnAll_12 (.tail _ (.tail _ (.tail _ (.head _)))) ?_
        refine tw_icmp (tgt := 42) (pc := 13) dX6_sendOnAll_13 (by decide) (fun (c234 : x225.toInt = x224.toInt) => ?_) (fun (c234 : ¬ (x225.toInt = x224.toInt)) => ?_)
        · skip
          refine tt_loc [(0, .inr (some q221)), (1, .inr (some q222)), (2, .inr (some q223)), (3, .inl x224), (4, .inl x225)] (List.forall_mem_cons.mpr ⟨(.head _), List.forall_mem_cons.mpr ⟨(.tail _ (.head _)), List.forall_mem_cons.mpr ⟨(.tail _ (.tail _ (.head _))), List.forall_mem_cons.mpr ⟨(.tail _ (.tail _ (.tail _ (.head _)))), List.forall_mem_cons.mpr ⟨(.tail _ (.tail _ (.tail _ (.tail _ (.head _))))), fun _ z => absurd z List.not_mem_nil⟩⟩⟩⟩⟩) ?_
          exact B42 hb hwb hfb q221 tq221 q222 tq222 q223 tq223 x224 x225 (by omega) (by omega) (by omega)
        · skip
          refine tt_aload_n (pc := 16) dX6_sendOnAll_16 (.head _) ?_
          refine tw_getr (pc := 17) dX6_sendOnAll_17 flX6_11 hwb tq221 (by decide) rfl (fun f235 q236 ef235 gf235 tq236 => ?_)
          refine tt_iload (pc := 20) dX6_sendOnAll_20 (.tail _ (.tail _ (.tail _ (.tail _ (.head _))))) ?_
          refine tw_ald (pc := 22) dX6_sendOnAll_22 hwb tq236 rfl (by decide) (by omega) (by omega) (fun f237 q238 ef237 gf237 tq238 => ?_)
          refine tt_aload_n (pc := 23) dX6_sendOnAll_23 (.tail _ (.head _)) ?_
          refine tw_geti (pc := 24) dX6_sendOnAll_24 flX6_249 hwb tq222 (by decide) rfl (fun f239 x240 ef239 gf239 lx240 ux240 => ?_)
          refine tw_callV (kc := 0) (ks := 0) (mc := 0) (ms := 0) (as := [.inl x240]) (st := []) (pc := 27) hwb tq238 (by decide) dX6_sendOnAll_27 lkX6_273 imX0_isUpAt seX0_isUpAt rfl rfl (by decide) (by decide) (Nat.le_of_ble_eq_true rfl) (g_X0_isUpAt hN2 hN8 hp0 hp64 hwb q238 tq238 x240) (fun rv h241 qh241 => ?_)
          obtain ⟨rfl, x242, rfl, lx242, ux242⟩ := qh241
          show TT _ _ _ _ _ _ _ _ [.inl x242] _
          refine tw_if (tgt := 42) (pc := 30) dX6_sendOnAll_30 (by decide) (fun (c243 : x242.toInt = 0) => ?_) (fun (c243 : ¬ (x242.toInt = 0)) => ?_)
          · skip
            refine tt_loc [(0, .inr (some q221)), (1, .inr (some q222)), (2, .inr (some q223)), (3, .inl x224), (4, .inl x225)] (List.forall_mem_cons.mpr ⟨(.head _), List.forall_mem_cons.mpr ⟨(.tail _ (.head _)), List.forall_mem_cons.mpr ⟨(.tail _ (.tail _ (.head _))), List.forall_mem_cons.mpr ⟨(.tail _ (.tail _ (.tail _ (.head _)))), List.forall_mem_cons.mpr ⟨(.tail _ (.tail _ (.tail _ (.tail _ (.head _))))), fun _ z => absurd z List.not_mem_nil⟩⟩⟩⟩⟩) ?_
            exact B42 hb hwb hfb q221 tq221 q222 tq222 q223 tq223 x224 x225 (by omega) (by omega) (by omega)
          · skip
            refine tt_aload_n (pc := 33) dX6_sendOnAll_33 (.head _) ?_
            refine tt_aload_n (pc := 34) dX6_sendOnAll_34 (.tail _ (.head _)) ?_
            refine tt_iload (pc := 35) dX6_sendOnAll_35 (.tail _ (.tail _ (.tail _ (.tail _ (.head _))))) ?_
            refine tt_aload_n (pc := 37) dX6_sendOnAll_37 (.tail _ (.tail _ (.head _))) ?_
            refine tw_callV (kc := 0) (ks := 0) (mc := 0) (ms := 0) (as := [.inr (some q222), .inl x225, .inr (some q223)]) (st := []) (pc := 38) hwb tq221 (by decide) dX6_sendOnAll_38 lkX6_276 imX6_put seX6_put rfl rfl (by decide) (by decide) (Nat.le_of_ble_eq_true rfl) (g_X6_put hN2 hN8 hp0 hp64 hwb q221 tq221 q222 tq222 x225 (by omega) (by omega) q223 tq223) (fun rv h244 qh244 => ?_)
            obtain ⟨wh244, fh244, x245, rfl, lx245, ux245⟩ := qh244
            have hfh244 := hfb.tr fh244
            show TT _ _ _ _ _ _ _ _ [.inl x245] _
            refine tt_pop (pc := 41) dX6_sendOnAll_41 ?_
            refine tt_loc [(0, .inr (some q221)), (1, .inr (some q222)), (2, .inr (some q223)), (3, .inl x224), (4, .inl x225)] (List.forall_mem_cons.mpr ⟨(.head _), List.forall_mem_cons.mpr ⟨(.tail _ (.head _)), List.forall_mem_cons.mpr ⟨(.tail _ (.tail _ (.head _))), List.forall_mem_cons.mpr ⟨(.tail _ (.tail _ (.tail _ (.head _)))), List.forall_mem_cons.mpr ⟨(.tail _ (.tail _ (.tail _ (.tail _ (.head _))))), fun _ z => absurd z List.not_mem_nil⟩⟩⟩⟩⟩) ?_
            exact B42 h244 wh244 hfh244 q221 tq221 q222 tq222 q223 tq223 x224 x225 (by omega) (by omega) (by omega)
  have ba3 := i_ty a3
  refine tw_iconst (pc := 0) dX6_sendOnAll_0 (by decide) (fun x246 ex246 => ?_)
  refine tt_istore (pc := 1) dX6_sendOnAll_1 (by decide) ?_
  show TT _ _ _ _ _ _ _ [(4, .inl x246), (0, .inr (some a0)), (1, .inr (some a1)), (2, .inr (some a2)), (3, .inl a3)] _ _
  refine tt_loc [(0, .inr (some a0)), (1, .inr (some a1)), (2, .inr (some a2)), (3, .inl a3), (4, .inl x246)] (List.forall_mem_cons.mpr ⟨(.tail _ (.head _)), List.forall_mem_cons.mpr ⟨(.tail _ (.tail _ (.head _))), List.forall_mem_cons.mpr ⟨(.tail _ (.tail _ (.tail _ (.head _)))), List.forall_mem_cons.mpr ⟨(.tail _ (.tail _ (.tail _ (.tail _ (.head _))))), List.forall_mem_cons.mpr ⟨(.head _), fun _ z => absurd z List.not_mem_nil⟩⟩⟩⟩⟩) ?_
  exact B3 13 h hw hf a0 ta0 a1 ta1 a2 ta2 a3 x246 (by omega) (by omega) (by omega)
abbrev mX6_putKnownNotes : tM := (RX6, cX6_putKnownNotes, 5, 2, 45, false)
set_option maxHeartbeats 4000000 in
theorem g_X6_putKnownNotes {l : Launch} {D : va_G} {N : Nat} {pk : Int} {τ : List Nat} (hN2 : 2 ≤ N) (hN8 : N ≤ 8) (hp0 : 0 ≤ pk) (hp64 : pk ≤ 64) {h : List tC} (hw : WT N pk τ h) (a0 : Nat) (ta0 : τ[a0]? = some 6) (a1 : Nat) (ta1 : τ[a1]? = some 4) (a2 : Int32) (la2 : 0 ≤ a2.toInt) (ua2 : a2.toInt ≤ 11) : TMc l D yX6_putKnownNotes cX6_putKnownNotes 5 none 2 45 0 0 [.inr (some a0), .inr (some a1), .inl a2] h (fun rv h' => WT N pk τ h' ∧ Fr PX τ h h' ∧ rv = none) := by
  refine tmc_of false rfl (by decide) (Nat.le_of_ble_eq_true rfl) ?_
  suffices HQ : ∀ Q0, Q0 = tRt cX6_putKnownNotes none (fun rv h' => WT N pk τ h' ∧ Fr PX τ h h' ∧ rv = none) → TT l D mX6_putKnownNotes Q0 0 0 0 [(0, .inr (some a0)), (1, .inr (some a1)), (2, .inl a2)] [] h from HQ _ rfl
  intro Q0 hQ
  have hf : Fr PX τ h h := Fr.rf
  have B2 : ∀ (n2 : Nat) (hb : List tC) (hwb : WT N pk τ hb) (hfb : Fr PX τ h hb) (q193 : Nat) (tq193 : τ[q193]? = some 6) (q194 : Nat) (tq194 : τ[q194]? = some 4) (x195 : Int32) (lx195 : 0 ≤ x195.toInt) (ux195 : x195.toInt ≤ 11) (x196 : Int32) (lx196 : 0 ≤ x196.toInt) (ux196 : x196.toInt ≤ 8), 8 - x196.toInt < n2 → TT l D mX6_putKnownNotes Q0 0 0 2 [(0, .inr (some q193)), (1, .inr (some q194)), (2, .inl x195), (3, .inl x196)] [] hb := by
    intro n2
    induction n2 with
    | zero =>
      intro hb hwb hfb q193 tq193 q194 tq194 x195 lx195 ux195 x196 lx196 ux196 hn2
      exfalso
      omega
    | succ n2 ih2 =>
      intro hb hwb hfb q193 tq193 q194 tq194 x195 lx195 ux195 x196 lx196 ux196 hn2
      have B48 : ∀ (hb : List tC) (hwb : WT N pk τ hb) (hfb : Fr PX τ h hb) (q197 : Nat) (tq197 : τ[q197]? = some 6) (q198 : Nat) (tq198 : τ[q198]? = some 4) (x199 : Int32) (lx199 : 0 ≤ x199.toInt) (ux199 : x199.toInt ≤ 11) (x200 : Int32) (lx200 : 0 ≤ x200.toInt) (ux200 : x200.toInt ≤ 7) (hn2 : 8 - x200.toInt < ((n2 + 1 : Nat) : Int)), TT l D mX6_putKnownNotes Q0 0 0 48 [(0, .inr (some q197)), (1, .inr (some q198)), (2, .inl x199), (3, .inl x200)] [] hb := by
        intro hb hwb hfb q197 tq197 q198 tq198 x199 lx199 ux199 x200 lx200 ux200 hn2
        refine tw_iinc (pc := 48) dX6_putKnownNotes_48 (.tail _ (.tail _ (.tail _ (.head _)))) (by decide) (by decide) (by omega) (fun x201 ex201 => ?_)
        show TT _ _ _ _ _ _ _ [(3, .inl x201), (0, .inr (some q197)), (1, .inr (some q198)), (2, .inl x199)] _ _
        refine tt_goto (tgt := 2) (pc := 51) dX6_putKnownNotes_51 (by decide) ?_
        refine tt_loc [(0, .inr (some q197)), (1, .inr (some q198)), (2, .inl x199), (3, .inl x201)] (List.forall_mem_cons.mpr ⟨(.tail _ (.head _)), List.forall_mem_cons.mpr ⟨(.tail _ (.tail _ (.head _))), List.forall_mem_cons.mpr ⟨(.tail _ (.tail _ (.tail _ (.head _)))), List.forall_mem_cons.mpr ⟨(.head _), fun _ z => absurd z List.not_mem_nil⟩⟩⟩⟩) ?_
        exact ih2 hb hwb hfb q197 tq197 q198 tq198 x199 (by omega) (by omega) x201 (by omega) (by omega) (by omega)
      refine tt_iload_n (pc := 2) dX6_putKnownNotes_2 (.tail _ (.tail _ (.tail _ (.head _)))) ?_
      refine tt_aload_n (pc := 3) dX6_putKnownNotes_3 (.head _) ?_
      refine tw_getr (pc := 4) dX6_putKnownNotes_4 flX6_50 hwb tq193 (by decide) rfl (fun f202 q203 ef202 gf202 tq203 => ?_)
      refine tw_alen (pc := 7) dX6_putKnownNotes_7 hwb tq203 rfl (by decide) (by omega) (fun x204 ex204 => ?_)
      refine tw_icmp (tgt := 54) (pc := 8) dX6_putKnownNotes_8 (by decide) (fun (c205 : x204.toInt ≤ x196.toInt) => ?_) (fun (c205 : ¬ (x204.toInt ≤ x196.toInt)) => ?_)
      · skip
        refine tt_stop ?_
        rw [hQ]
        exact Or.inl ⟨dX6_putKnownNotes_54, rfl, rfl, hwb, hfb, rfl⟩
      · skip
        refine tt_aload_n (pc := 11) dX6_putKnownNotes_11 (.tail _ (.head _)) ?_
        refine tw_getr (pc := 12) dX6_putKnownNotes_12 flX6_185 hwb tq194 (by decide) rfl (fun f206 q207 ef206 gf206 tq207 => ?_)
        refine tt_iload_n (pc := 15) dX6_putKnownNotes_15 (.tail _ (.tail _ (.tail _ (.head _)))) ?_
        refine tw_aldn (pc := 16) dX6_putKnownNotes_16 hwb tq207 rfl (by decide) (by omega) (by omega) (fun f208 o209 ef208 gf208 to209 => ?_)
        refine tt_astore (pc := 17) dX6_putKnownNotes_17 (by decide) ?_
        show TT _ _ _ _ _ _ _ [(4, .inr o209), (0, .inr (some q193)), (1, .inr (some q194)), (2, .inl x195), (3, .inl x196)] _ _
        refine tt_iload_n (pc := 19) dX6_putKnownNotes_19 (.tail _ (.tail _ (.tail _ (.tail _ (.head _))))) ?_
        refine tt_aload_n (pc := 20) dX6_putKnownNotes_20 (.tail _ (.tail _ (.head _))) ?_
        refine tw_geti (pc := 21) dX6_putKnownNotes_21 flX6_249 hwb tq194 (by decide) rfl (fun f210 x211 ef210 gf210 lx211 ux211 => ?_)
        refine tw_icmp (tgt := 48) (pc := 24) dX6_putKnownNotes_24 (by decide) (fun (c212 : x196.toInt = x211.toInt) => ?_) (fun (c212 : ¬ (x196.toInt = x211.toInt)) => ?_)
        · skip
          refine tt_loc [(0, .inr (some q193)), (1, .inr (some q194)), (2, .inl x195), (3, .inl x196)] (List.forall_mem_cons.mpr ⟨(.tail _ (.head _)), List.forall_mem_cons.mpr ⟨(.tail _ (.tail _ (.head _))), List.forall_mem_cons.mpr ⟨(.tail _ (.tail _ (.tail _ (.head _)))), List.forall_mem_cons.mpr ⟨(.tail _ (.tail _ (.tail _ (.tail _ (.head _))))), fun _ z => absurd z List.not_mem_nil⟩⟩⟩⟩) ?_
          exact B48 hb hwb hfb q193 tq193 q194 tq194 x195 (by omega) (by omega) x196 (by omega) (by omega) (by omega)
        · skip
          refine tt_aload (pc := 27) dX6_putKnownNotes_27 (.head _) ?_
          refine tt_ifnull (tgt := 48) (pc := 29) dX6_putKnownNotes_29 (by decide) (fun z213 => ?_) (fun q214 z213 => ?_)
          · subst z213
            refine tt_loc [(0, .inr (some q193)), (1, .inr (some q194)), (2, .inl x195), (3, .inl x196)] (List.forall_mem_cons.mpr ⟨(.tail _ (.head _)), List.forall_mem_cons.mpr ⟨(.tail _ (.tail _ (.head _))), List.forall_mem_cons.mpr ⟨(.tail _ (.tail _ (.tail _ (.head _)))), List.forall_mem_cons.mpr ⟨(.tail _ (.tail _ (.tail _ (.tail _ (.head _))))), fun _ z => absurd z List.not_mem_nil⟩⟩⟩⟩) ?_
            exact B48 hb hwb hfb q193 tq193 q194 tq194 x195 (by omega) (by omega) x196 (by omega) (by omega) (by omega)
          · have tq214 := to209 q214 z213
            subst z213
            refine tt_aload_n (pc := 32) dX6_putKnownNotes_32 (.tail _ (.head _)) ?_
            refine tt_aload_n (pc := 33) dX6_putKnownNotes_33 (.tail _ (.tail _ (.head _))) ?_
            refine tt_iload_n (pc := 34) dX6_putKnownNotes_34 (.tail _ (.tail _ (.tail _ (.head _)))) ?_
            refine tt_aload_n (pc := 35) dX6_putKnownNotes_35 (.tail _ (.head _)) ?_
            refine tw_getr (pc := 36) dX6_putKnownNotes_36 flX6_35 hwb tq193 (by decide) rfl (fun f215 q216 ef215 gf215 tq216 => ?_)
            refine tt_aload (pc := 39) dX6_putKnownNotes_39 (.head _) ?_
            refine tw_callV (kc := 0) (ks := 0) (mc := 0) (ms := 0) (as := [.inr (some q214)]) (st := [.inl x195, .inr (some q194), .inr (some q193)]) (pc := 41) hwb tq216 (by decide) dX6_putKnownNotes_41 lkX6_265 imX1_asNote seX1_asNote rfl rfl (by decide) (by decide) (Nat.le_of_ble_eq_true rfl) (g_X1_asNote hN2 hN8 hp0 hp64 hwb q216 tq216 q214 tq214) (fun rv h217 qh217 => ?_)
            obtain ⟨wh217, fh217, q218, rfl, tq218⟩ := qh217
            have hfh217 := hfb.tr fh217
            show TT _ _ _ _ _ _ _ _ [.inr (some q218), .inl x195, .inr (some q194), .inr (some q193)] _
            refine tw_callV (kc := 0) (ks := 0) (mc := 0) (ms := 0) (as := [.inr (some q194), .inl x195, .inr (some q218)]) (st := []) (pc := 44) wh217 tq193 (by decide) dX6_putKnownNotes_44 lkX6_276 imX6_put seX6_put rfl rfl (by decide) (by decide) (Nat.le_of_ble_eq_true rfl) (g_X6_put hN2 hN8 hp0 hp64 wh217 q193 tq193 q194 tq194 x195 (by omega) (by omega) q218 tq218) (fun rv h219 qh219 => ?_)
            obtain ⟨wh219, fh219, x220, rfl, lx220, ux220⟩ := qh219
            have hfh219 := hfh217.tr fh219
            show TT _ _ _ _ _ _ _ _ [.inl x220] _
            refine tt_pop (pc := 47) dX6_putKnownNotes_47 ?_
            refine tt_loc [(0, .inr (some q193)), (1, .inr (some q194)), (2, .inl x195), (3, .inl x196)] (List.forall_mem_cons.mpr ⟨(.tail _ (.head _)), List.forall_mem_cons.mpr ⟨(.tail _ (.tail _ (.head _))), List.forall_mem_cons.mpr ⟨(.tail _ (.tail _ (.tail _ (.head _)))), List.forall_mem_cons.mpr ⟨(.tail _ (.tail _ (.tail _ (.tail _ (.head _))))), fun _ z => absurd z List.not_mem_nil⟩⟩⟩⟩) ?_
            exact B48 h219 wh219 hfh219 q193 tq193 q194 tq194 x195 (by omega) (by omega) x196 (by omega) (by omega) (by omega)
  refine tw_iconst (pc := 0) dX6_putKnownNotes_0 (by decide) (fun x221 ex221 => ?_)
  refine tt_istore_n (pc := 1) dX6_putKnownNotes_1 (by decide) ?_
  show TT _ _ _ _ _ _ _ [(3, .inl x221), (0, .inr (some a0)), (1, .inr (some a1)), (2, .inl a2)] _ _
  refine tt_loc [(0, .inr (some a0)), (1, .inr (some a1)), (2, .inl a2), (3, .inl x221)] (List.forall_mem_cons.mpr ⟨(.tail _ (.head _)), List.forall_mem_cons.mpr ⟨(.tail _ (.tail _ (.head _))), List.forall_mem_cons.mpr ⟨(.tail _ (.tail _ (.tail _ (.head _)))), List.forall_mem_cons.mpr ⟨(.head _), fun _ z => absurd z List.not_mem_nil⟩⟩⟩⟩) ?_
  exact B2 9 h hw hf a0 ta0 a1 ta1 a2 (by omega) (by omega) x221 (by omega) (by omega) (by omega)
abbrev mX6_putMappings : tM := (RX6, cX6_putMappings, 4, 2, 45, false)
set_option maxHeartbeats 4000000 in
theorem g_X6_putMappings {l : Launch} {D : va_G} {N : Nat} {pk : Int} {τ : List Nat} (hN2 : 2 ≤ N) (hN8 : N ≤ 8) (hp0 : 0 ≤ pk) (hp64 : pk ≤ 64) {h : List tC} (hw : WT N pk τ h) (a0 : Nat) (ta0 : τ[a0]? = some 6) (a1 : Nat) (ta1 : τ[a1]? = some 4) (a2 : Int32) (la2 : 0 ≤ a2.toInt) (ua2 : a2.toInt ≤ 11) : TMc l D yX6_putMappings cX6_putMappings 4 none 2 45 0 0 [.inr (some a0), .inr (some a1), .inl a2] h (fun rv h' => WT N pk τ h' ∧ Fr PX τ h h' ∧ rv = none) := by
  refine tmc_of false rfl (by decide) (Nat.le_of_ble_eq_true rfl) ?_
  suffices HQ : ∀ Q0, Q0 = tRt cX6_putMappings none (fun rv h' => WT N pk τ h' ∧ Fr PX τ h h' ∧ rv = none) → TT l D mX6_putMappings Q0 0 0 0 [(0, .inr (some a0)), (1, .inr (some a1)), (2, .inl a2)] [] h from HQ _ rfl
  intro Q0 hQ
  have hf : Fr PX τ h h := Fr.rf
  have B2 : ∀ (n2 : Nat) (hb : List tC) (hwb : WT N pk τ hb) (hfb : Fr PX τ h hb) (q193 : Nat) (tq193 : τ[q193]? = some 6) (q194 : Nat) (tq194 : τ[q194]? = some 4) (x195 : Int32) (lx195 : 0 ≤ x195.toInt) (ux195 : x195.toInt ≤ 11) (x196 : Int32) (lx196 : 0 ≤ x196.toInt) (ux196 : x196.toInt ≤ 8), 8 - x196.toInt < n2 → TT l D mX6_putMappings Q0 0 0 2 [(0, .inr (some q193)), (1, .inr (some q194)), (2, .inl x195), (3, .inl x196)] [] hb := by
    intro n2
    induction n2 with
    | zero =>
      intro hb hwb hfb q193 tq193 q194 tq194 x195 lx195 ux195 x196 lx196 ux196 hn2
      exfalso
      omega
    | succ n2 ih2 =>
      intro hb hwb hfb q193 tq193 q194 tq194 x195 lx195 ux195 x196 lx196 ux196 hn2
      have B46 : ∀ (hb : List tC) (hwb : WT N pk τ hb) (hfb : Fr PX τ h hb) (q197 : Nat) (tq197 : τ[q197]? = some 6) (q198 : Nat) (tq198 : τ[q198]? = some 4) (x199 : Int32) (lx199 : 0 ≤ x199.toInt) (ux199 : x199.toInt ≤ 11) (x200 : Int32) (lx200 : 0 ≤ x200.toInt) (ux200 : x200.toInt ≤ 7) (hn2 : 8 - x200.toInt < ((n2 + 1 : Nat) : Int)), TT l D mX6_putMappings Q0 0 0 46 [(0, .inr (some q197)), (1, .inr (some q198)), (2, .inl x199), (3, .inl x200)] [] hb := by
        intro hb hwb hfb q197 tq197 q198 tq198 x199 lx199 ux199 x200 lx200 ux200 hn2
        refine tw_iinc (pc := 46) dX6_putMappings_46 (.tail _ (.tail _ (.tail _ (.head _)))) (by decide) (by decide) (by omega) (fun x201 ex201 => ?_)
        show TT _ _ _ _ _ _ _ [(3, .inl x201), (0, .inr (some q197)), (1, .inr (some q198)), (2, .inl x199)] _ _
        refine tt_goto (tgt := 2) (pc := 49) dX6_putMappings_49 (by decide) ?_
        refine tt_loc [(0, .inr (some q197)), (1, .inr (some q198)), (2, .inl x199), (3, .inl x201)] (List.forall_mem_cons.mpr ⟨(.tail _ (.head _)), List.forall_mem_cons.mpr ⟨(.tail _ (.tail _ (.head _))), List.forall_mem_cons.mpr ⟨(.tail _ (.tail _ (.tail _ (.head _)))), List.forall_mem_cons.mpr ⟨(.head _), fun _ z => absurd z List.not_mem_nil⟩⟩⟩⟩) ?_
        exact ih2 hb hwb hfb q197 tq197 q198 tq198 x199 (by omega) (by omega) x201 (by omega) (by omega) (by omega)
      refine tt_iload_n (pc := 2) dX6_putMappings_2 (.tail _ (.tail _ (.tail _ (.head _)))) ?_
      refine tw_bipush (pc := 3) dX6_putMappings_3 (by decide) (fun x202 ex202 => ?_)
      refine tw_icmp (tgt := 52) (pc := 5) dX6_putMappings_5 (by decide) (fun (c203 : x202.toInt ≤ x196.toInt) => ?_) (fun (c203 : ¬ (x202.toInt ≤ x196.toInt)) => ?_)
      · skip
        refine tt_stop ?_
        rw [hQ]
        exact Or.inl ⟨dX6_putMappings_52, rfl, rfl, hwb, hfb, rfl⟩
      · skip
        refine tt_aload_n (pc := 8) dX6_putMappings_8 (.tail _ (.head _)) ?_
        refine tw_getr (pc := 9) dX6_putMappings_9 flX6_207 hwb tq194 (by decide) rfl (fun f204 q205 ef204 gf204 tq205 => ?_)
        refine tt_iload_n (pc := 12) dX6_putMappings_12 (.tail _ (.tail _ (.tail _ (.head _)))) ?_
        refine tw_ild (pc := 13) dX6_putMappings_13 hwb tq205 rfl (by omega) (by omega) (fun f207 x206 ef207 gf207 lx206 ux206 => ?_)
        refine tw_iconst (pc := 14) dX6_putMappings_14 (by decide) (fun x208 ex208 => ?_)
        refine tw_icmp (tgt := 46) (pc := 15) dX6_putMappings_15 (by decide) (fun (c209 : x206.toInt = x208.toInt) => ?_) (fun (c209 : ¬ (x206.toInt = x208.toInt)) => ?_)
        · skip
          refine tt_loc [(0, .inr (some q193)), (1, .inr (some q194)), (2, .inl x195), (3, .inl x196)] (List.forall_mem_cons.mpr ⟨(.head _), List.forall_mem_cons.mpr ⟨(.tail _ (.head _)), List.forall_mem_cons.mpr ⟨(.tail _ (.tail _ (.head _))), List.forall_mem_cons.mpr ⟨(.tail _ (.tail _ (.tail _ (.head _)))), fun _ z => absurd z List.not_mem_nil⟩⟩⟩⟩) ?_
          exact B46 hb hwb hfb q193 tq193 q194 tq194 x195 (by omega) (by omega) x196 (by omega) (by omega) (by omega)
        · skip
          refine tt_aload_n (pc := 18) dX6_putMappings_18 (.head _) ?_
          refine tt_aload_n (pc := 19) dX6_putMappings_19 (.tail _ (.head _)) ?_
          refine tt_iload_n (pc := 20) dX6_putMappings_20 (.tail _ (.tail _ (.head _))) ?_
          refine tt_aload_n (pc := 21) dX6_putMappings_21 (.head _) ?_
          refine tw_getr (pc := 22) dX6_putMappings_22 flX6_35 hwb tq193 (by decide) rfl (fun f210 q211 ef210 gf210 tq211 => ?_)
          refine tw_iconst (pc := 25) dX6_putMappings_25 (by decide) (fun x212 ex212 => ?_)
          refine tt_iload_n (pc := 26) dX6_putMappings_26 (.tail _ (.tail _ (.tail _ (.head _)))) ?_
          refine tt_aload_n (pc := 27) dX6_putMappings_27 (.tail _ (.head _)) ?_
          refine tt_get (pc := 28) dX6_putMappings_28 flX6_207 ef204 gf204 ?_
          refine tt_iload_n (pc := 31) dX6_putMappings_31 (.tail _ (.tail _ (.tail _ (.head _)))) ?_
          refine tt_iald (pc := 32) dX6_putMappings_32 ef207 (i_nn (by omega)) gf207 ?_
          refine tt_aload_n (pc := 33) dX6_putMappings_33 (.tail _ (.head _)) ?_
          refine tw_getr (pc := 34) dX6_putMappings_34 flX6_210 hwb tq194 (by decide) rfl (fun f213 q214 ef213 gf213 tq214 => ?_)
          refine tt_iload_n (pc := 37) dX6_putMappings_37 (.tail _ (.tail _ (.tail _ (.head _)))) ?_
          refine tw_ild (pc := 38) dX6_putMappings_38 hwb tq214 rfl (by omega) (by omega) (fun f216 x215 ef216 gf216 lx215 ux215 => ?_)
          refine tw_callV (kc := 0) (ks := 0) (mc := 0) (ms := 0) (as := [.inl x212, .inl x196, .inl x206, .inl x215]) (st := [.inl x195, .inr (some q194), .inr (some q193)]) (pc := 39) hwb tq211 (by decide) dX6_putMappings_39 lkX6_280 imX1_as seX1_as rfl rfl (by decide) (by decide) (Nat.le_of_ble_eq_true rfl) (g_X1_asA hN2 hN8 hp0 hp64 hwb q211 tq211 x212 (by omega) (by omega) x196 (by omega) (by omega) x206 x215) (fun rv h217 qh217 => ?_)
          obtain ⟨wh217, fh217, q218, rfl, tq218⟩ := qh217
          have hfh217 := hfb.tr fh217
          show TT _ _ _ _ _ _ _ _ [.inr (some q218), .inl x195, .inr (some q194), .inr (some q193)] _
          refine tw_callV (kc := 0) (ks := 0) (mc := 0) (ms := 0) (as := [.inr (some q194), .inl x195, .inr (some q218)]) (st := []) (pc := 42) wh217 tq193 (by decide) dX6_putMappings_42 lkX6_276 imX6_put seX6_put rfl rfl (by decide) (by decide) (Nat.le_of_ble_eq_true rfl) (g_X6_put hN2 hN8 hp0 hp64 wh217 q193 tq193 q194 tq194 x195 (by omega) (by omega) q218 tq218) (fun rv h219 qh219 => ?_)
          obtain ⟨wh219, fh219, x220, rfl, lx220, ux220⟩ := qh219
          have hfh219 := hfh217.tr fh219
          show TT _ _ _ _ _ _ _ _ [.inl x220] _
          refine tt_pop (pc := 45) dX6_putMappings_45 ?_
          refine tt_loc [(0, .inr (some q193)), (1, .inr (some q194)), (2, .inl x195), (3, .inl x196)] (List.forall_mem_cons.mpr ⟨(.head _), List.forall_mem_cons.mpr ⟨(.tail _ (.head _)), List.forall_mem_cons.mpr ⟨(.tail _ (.tail _ (.head _))), List.forall_mem_cons.mpr ⟨(.tail _ (.tail _ (.tail _ (.head _)))), fun _ z => absurd z List.not_mem_nil⟩⟩⟩⟩) ?_
          exact B46 h219 wh219 hfh219 q193 tq193 q194 tq194 x195 (by omega) (by omega) x196 (by omega) (by omega) (by omega)
  refine tw_iconst (pc := 0) dX6_putMappings_0 (by decide) (fun x221 ex221 => ?_)
  refine tt_istore_n (pc := 1) dX6_putMappings_1 (by decide) ?_
  show TT _ _ _ _ _ _ _ [(3, .inl x221), (0, .inr (some a0)), (1, .inr (some a1)), (2, .inl a2)] _ _
  refine tt_loc [(0, .inr (some a0)), (1, .inr (some a1)), (2, .inl a2), (3, .inl x221)] (List.forall_mem_cons.mpr ⟨(.tail _ (.head _)), List.forall_mem_cons.mpr ⟨(.tail _ (.tail _ (.head _))), List.forall_mem_cons.mpr ⟨(.tail _ (.tail _ (.tail _ (.head _)))), List.forall_mem_cons.mpr ⟨(.head _), fun _ z => absurd z List.not_mem_nil⟩⟩⟩⟩) ?_
  exact B2 9 h hw hf a0 ta0 a1 ta1 a2 (by omega) (by omega) x221 (by omega) (by omega) (by omega)
abbrev mX6_firstThatWaits : tM := (RX6, cX6_firstThatWaits, 3, 0, 0, false)
set_option maxHeartbeats 4000000 in
theorem g_X6_firstThatWaits {l : Launch} {D : va_G} {N : Nat} {pk : Int} {τ : List Nat} (hN2 : 2 ≤ N) (hN8 : N ≤ 8) (hp0 : 0 ≤ pk) (hp64 : pk ≤ 64) {h : List tC} (hw : WT N pk τ h) (a0 : Nat) (ta0 : τ[a0]? = some 6) : TMc l D yX6_firstThatWaits cX6_firstThatWaits 3 (some .int) 0 0 0 0 [.inr (some a0)] h (fun rv h' => h = h' ∧ ∃ x : Int32, rv = some (.inl x) ∧ -1 ≤ x.toInt ∧ x.toInt ≤ 23) := by
  refine tmc_of false rfl (by decide) (Nat.le_of_ble_eq_true rfl) ?_
  suffices HQ : ∀ Q0, Q0 = tRt cX6_firstThatWaits (some .int) (fun rv h' => h = h' ∧ ∃ x : Int32, rv = some (.inl x) ∧ -1 ≤ x.toInt ∧ x.toInt ≤ 23) → TT l D mX6_firstThatWaits Q0 0 0 0 [(0, .inr (some a0))] [] h from HQ _ rfl
  intro Q0 hQ
  have B2 : ∀ (n2 : Nat) (q256 : Nat) (tq256 : τ[q256]? = some 6) (x257 : Int32) (lx257 : 0 ≤ x257.toInt) (ux257 : x257.toInt ≤ 12), 12 - x257.toInt < n2 → TT l D mX6_firstThatWaits Q0 0 0 2 [(0, .inr (some q256)), (1, .inl x257)] [] h := by
    intro n2
    induction n2 with
    | zero =>
      intro q256 tq256 x257 lx257 ux257 hn2
      exfalso
      omega
    | succ n2 ih2 =>
      intro q256 tq256 x257 lx257 ux257 hn2
      have B10 : ∀ (n10 : Nat) (q258 : Nat) (tq258 : τ[q258]? = some 6) (x259 : Int32) (lx259 : 0 ≤ x259.toInt) (ux259 : x259.toInt ≤ 11) (x260 : Int32) (lx260 : 0 ≤ x260.toInt) (ux260 : x260.toInt ≤ 2) (hn2 : 12 - x259.toInt < ((n2 + 1 : Nat) : Int)), 2 - x260.toInt < n10 → TT l D mX6_firstThatWaits Q0 0 0 10 [(0, .inr (some q258)), (1, .inl x259), (2, .inl x260)] [] h := by
        intro n10
        induction n10 with
        | zero =>
          intro q258 tq258 x259 lx259 ux259 x260 lx260 ux260 hn2 hn10
          exfalso
          omega
        | succ n10 ih10 =>
          intro q258 tq258 x259 lx259 ux259 x260 lx260 ux260 hn2 hn10
          refine tt_iload_n (pc := 10) dX6_firstThatWaits_10 (.tail _ (.tail _ (.head _))) ?_
          refine tw_iconst (pc := 11) dX6_firstThatWaits_11 (by decide) (fun x261 ex261 => ?_)
          refine tw_icmp (tgt := 44) (pc := 12) dX6_firstThatWaits_12 (by decide) (fun (c262 : x261.toInt ≤ x260.toInt) => ?_) (fun (c262 : ¬ (x261.toInt ≤ x260.toInt)) => ?_)
          · skip
            refine tw_iinc (pc := 44) dX6_firstThatWaits_44 (.tail _ (.head _)) (by decide) (by decide) (by omega) (fun x263 ex263 => ?_)
            show TT _ _ _ _ _ _ _ [(1, .inl x263), (0, .inr (some q258)), (2, .inl x260)] _ _
            refine tt_goto (tgt := 2) (pc := 47) dX6_firstThatWaits_47 (by decide) ?_
            refine tt_loc [(0, .inr (some q258)), (1, .inl x263)] (List.forall_mem_cons.mpr ⟨(.tail _ (.head _)), List.forall_mem_cons.mpr ⟨(.head _), fun _ z => absurd z List.not_mem_nil⟩⟩) ?_
            exact ih2 q258 tq258 x263 (by omega) (by omega) (by omega)
          · skip
            refine tt_aload_n (pc := 15) dX6_firstThatWaits_15 (.head _) ?_
            refine tw_getr (pc := 16) dX6_firstThatWaits_16 flX6_11 hw tq258 (by decide) rfl (fun f264 q265 ef264 gf264 tq265 => ?_)
            refine tt_iload_n (pc := 19) dX6_firstThatWaits_19 (.tail _ (.head _)) ?_
            refine tw_ald (pc := 20) dX6_firstThatWaits_20 hw tq265 rfl (by decide) (by omega) (by omega) (fun f266 q267 ef266 gf266 tq267 => ?_)
            refine tw_getr (pc := 21) dX6_firstThatWaits_21 flX6_131 hw tq267 (by decide) rfl (fun f268 q269 ef268 gf268 tq269 => ?_)
            refine tt_iload_n (pc := 24) dX6_firstThatWaits_24 (.tail _ (.tail _ (.head _))) ?_
            refine tw_ald (pc := 25) dX6_firstThatWaits_25 hw tq269 rfl (by decide) (by omega) (by omega) (fun f270 q271 ef270 gf270 tq271 => ?_)
            refine tw_geti (pc := 26) dX6_firstThatWaits_26 flX6_170 hw tq271 (by decide) rfl (fun f272 x273 ef272 gf272 lx273 ux273 => ?_)
            refine tw_if (tgt := 38) (pc := 29) dX6_firstThatWaits_29 (by decide) (fun (c274 : x273.toInt ≤ 0) => ?_) (fun (c274 : ¬ (x273.toInt ≤ 0)) => ?_)
            · skip
              refine tw_iinc (pc := 38) dX6_firstThatWaits_38 (.tail _ (.tail _ (.head _))) (by decide) (by decide) (by omega) (fun x275 ex275 => ?_)
              show TT _ _ _ _ _ _ _ [(2, .inl x275), (0, .inr (some q258)), (1, .inl x259)] _ _
              refine tt_goto (tgt := 10) (pc := 41) dX6_firstThatWaits_41 (by decide) ?_
              refine tt_loc [(0, .inr (some q258)), (1, .inl x259), (2, .inl x275)] (List.forall_mem_cons.mpr ⟨(.tail _ (.head _)), List.forall_mem_cons.mpr ⟨(.tail _ (.tail _ (.head _))), List.forall_mem_cons.mpr ⟨(.head _), fun _ z => absurd z List.not_mem_nil⟩⟩⟩) ?_
              exact ih10 q258 tq258 x259 (by omega) (by omega) x275 (by omega) (by omega) (by omega) (by omega)
            · skip
              refine tt_iload_n (pc := 32) dX6_firstThatWaits_32 (.tail _ (.head _)) ?_
              refine tw_iconst (pc := 33) dX6_firstThatWaits_33 (by decide) (fun x276 ex276 => ?_)
              refine tw_imul2 (c := 2) (pc := 34) dX6_firstThatWaits_34 (by omega) (by omega) (fun x277 ex277 => ?_)
              refine tt_iload_n (pc := 35) dX6_firstThatWaits_35 (.tail _ (.tail _ (.head _))) ?_
              refine tw_iadd (pc := 36) dX6_firstThatWaits_36 (by omega) (fun x278 ex278 => ?_)
              refine tt_stop ?_
              rw [hQ]
              exact Or.inr (Or.inl ⟨x278, dX6_firstThatWaits_37, rfl, Or.inl rfl, rfl, x278, rfl, by omega, by omega⟩)
      refine tt_iload_n (pc := 2) dX6_firstThatWaits_2 (.tail _ (.head _)) ?_
      refine tw_bipush (pc := 3) dX6_firstThatWaits_3 (by decide) (fun x279 ex279 => ?_)
      refine tw_icmp (tgt := 50) (pc := 5) dX6_firstThatWaits_5 (by decide) (fun (c280 : x279.toInt ≤ x257.toInt) => ?_) (fun (c280 : ¬ (x279.toInt ≤ x257.toInt)) => ?_)
      · skip
        refine tw_iconst (pc := 50) dX6_firstThatWaits_50 (by decide) (fun x281 ex281 => ?_)
        refine tt_stop ?_
        rw [hQ]
        exact Or.inr (Or.inl ⟨x281, dX6_firstThatWaits_51, rfl, Or.inl rfl, rfl, x281, rfl, by omega, by omega⟩)
      · skip
        refine tw_iconst (pc := 8) dX6_firstThatWaits_8 (by decide) (fun x282 ex282 => ?_)
        refine tt_istore_n (pc := 9) dX6_firstThatWaits_9 (by decide) ?_
        show TT _ _ _ _ _ _ _ [(2, .inl x282), (0, .inr (some q256)), (1, .inl x257)] _ _
        refine tt_loc [(0, .inr (some q256)), (1, .inl x257), (2, .inl x282)] (List.forall_mem_cons.mpr ⟨(.tail _ (.head _)), List.forall_mem_cons.mpr ⟨(.tail _ (.tail _ (.head _))), List.forall_mem_cons.mpr ⟨(.head _), fun _ z => absurd z List.not_mem_nil⟩⟩⟩) ?_
        exact B10 3 q256 tq256 x257 (by omega) (by omega) x282 (by omega) (by omega) (by omega) (by omega)
  refine tw_iconst (pc := 0) dX6_firstThatWaits_0 (by decide) (fun x283 ex283 => ?_)
  refine tt_istore_n (pc := 1) dX6_firstThatWaits_1 (by decide) ?_
  show TT _ _ _ _ _ _ _ [(1, .inl x283), (0, .inr (some a0))] _ _
  refine tt_loc [(0, .inr (some a0)), (1, .inl x283)] (List.forall_mem_cons.mpr ⟨(.tail _ (.head _)), List.forall_mem_cons.mpr ⟨(.head _), fun _ z => absurd z List.not_mem_nil⟩⟩) ?_
  exact B2 13 a0 ta0 x283 (by omega) (by omega) (by omega)
