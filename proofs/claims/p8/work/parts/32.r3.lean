abbrev mX7_send : tM := (RX7, cX7_send, 7, 1, 28, false)
set_option maxHeartbeats 4000000 in
theorem g_X7_sendA {l : Launch} {D : va_G} {N : Nat} {pk : Int} {τ : List Nat} (hN2 : 2 ≤ N) (hN8 : N ≤ 8) (hp0 : 0 ≤ pk) (hp64 : pk ≤ 64) {h : List tC} (hw : WT N pk τ h) (a0 : Nat) (ta0 : τ[a0]? = some 7) (a1 : Int32) (la1 : 0 ≤ a1.toInt) (ua1 : a1.toInt ≤ 7) (a2 : Int32) (la2 : 0 ≤ a2.toInt) (ua2 : a2.toInt ≤ 11) (a3 : Int32) (la3 : 0 ≤ a3.toInt) (ua3 : a3.toInt ≤ 0) (a4 : Int32) (la4 : 0 ≤ a4.toInt) (ua4 : a4.toInt ≤ 7) (a5 : Int32) (a6 : Int32) : TMc l D yX7_send cX7_send 7 none 1 28 0 0 [.inr (some a0), .inl a1, .inl a2, .inl a3, .inl a4, .inl a5, .inl a6] h (fun rv h' => WT N pk τ h' ∧ Fr PMk τ h h' ∧ rv = none) := by
  refine tmc_of false rfl (by decide) (Nat.le_of_ble_eq_true rfl) ?_
  suffices HQ : ∀ Q0, Q0 = tRt cX7_send none (fun rv h' => WT N pk τ h' ∧ Fr PMk τ h h' ∧ rv = none) → TT l D mX7_send Q0 0 0 0 [(0, .inr (some a0)), (1, .inl a1), (2, .inl a2), (3, .inl a3), (4, .inl a4), (5, .inl a5), (6, .inl a6)] [] h from HQ _ rfl
  intro Q0 hQ
  have hf : Fr PMk τ h h := Fr.rf
  have B62 : ∀ (hb : List tC) (hwb : WT N pk τ hb) (hfb : Fr PMk τ h hb), TT l D mX7_send Q0 0 0 62 [] [] hb := by
    intro hb hwb hfb
    refine tt_stop ?_
    rw [hQ]
    exact Or.inl ⟨dX7_send_62, rfl, rfl, hwb, hfb, rfl⟩
  have ba5 := i_ty a5
  have ba6 := i_ty a6
  refine tt_aload_n (pc := 0) dX7_send_0 (.head _) ?_
  refine tt_iload_n (pc := 1) dX7_send_1 (.tail _ (.head _)) ?_
  refine tt_iload_n (pc := 2) dX7_send_2 (.tail _ (.tail _ (.head _))) ?_
  refine tt_iload_n (pc := 3) dX7_send_3 (.tail _ (.tail _ (.tail _ (.head _)))) ?_
  refine tt_iload (pc := 4) dX7_send_4 (.tail _ (.tail _ (.tail _ (.tail _ (.head _))))) ?_
  refine tt_iload (pc := 6) dX7_send_6 (.tail _ (.tail _ (.tail _ (.tail _ (.tail _ (.head _)))))) ?_
  refine tt_iload (pc := 8) dX7_send_8 (.tail _ (.tail _ (.tail _ (.tail _ (.tail _ (.tail _ (.head _))))))) ?_
  refine tw_callV (kc := 0) (ks := 0) (mc := 0) (ms := 0) (as := [.inl a1, .inl a2, .inl a3, .inl a4, .inl a5, .inl a6]) (st := []) (pc := 10) hw ta0 (by decide) dX7_send_10 lkX7_103 imX7_put seX7_put rfl rfl (by decide) (by decide) (Nat.le_of_ble_eq_true rfl) (g_X7_putA hN2 hN8 hp0 hp64 hw a0 ta0 a1 a2 (by omega) (by omega) a3 (by omega) (by omega) a4 (by omega) (by omega) a5 a6) (fun rv h12 qh12 => ?_)
  obtain ⟨wh12, fh12, x13, rfl, lx13, ux13⟩ := qh12
  have hfh12 := hf.tr (fh12.weak weak_PMq_PMk)
  show TT _ _ _ _ _ _ _ _ [.inl x13] _
  refine tw_if (tgt := 29) (pc := 13) dX7_send_13 (by decide) (fun (c14 : x13.toInt ≠ 0) => ?_) (fun (c14 : ¬ (x13.toInt ≠ 0)) => ?_)
  · skip
    refine tt_iload_n (pc := 29) dX7_send_29 (.tail _ (.tail _ (.tail _ (.head _)))) ?_
    refine tw_iconst (pc := 30) dX7_send_30 (by decide) (fun x15 ex15 => ?_)
    refine tw_icmp (tgt := 62) (pc := 31) dX7_send_31 (by decide) (fun (c16 : a3.toInt ≠ x15.toInt) => ?_) (fun (c16 : ¬ (a3.toInt ≠ x15.toInt)) => ?_)
    · skip
      refine tt_loc [] (fun _ z => absurd z List.not_mem_nil) ?_
      exact B62 h12 wh12 hfh12
    · skip
      exfalso
      omega
  · skip
    refine tt_aload_n (pc := 16) dX7_send_16 (.head _) ?_
    refine tt_dup (pc := 17) dX7_send_17 ?_
    refine tw_geti (pc := 18) dX7_send_18 flX7_107 wh12 ta0 (by decide) rfl (fun f17 x18 ef17 gf17 lx18 ux18 => ?_)
    refine tw_iconst (pc := 21) dX7_send_21 (by decide) (fun x19 ex19 => ?_)
    refine tt_iadd (pc := 22) dX7_send_22 ?_
    refine tw_any (fun x20 => ?_)
    have bx20 := i_ty x20
    refine tw_put (P := PMk) (pc := 23) dX7_send_23 flX7_107 wh12 ta0 (by decide) rfl ⟨by omega, by omega⟩ rfl (by decide) (by decide) (fun f21 h22 eh22 gh22 kh22 wh22 fh22 => ?_)
    have hfh22 := hfh12.tr fh22
    refine tt_goto (tgt := 62) (pc := 26) dX7_send_26 (by decide) ?_
    refine tt_loc [] (fun _ z => absurd z List.not_mem_nil) ?_
    exact B62 h22 wh22 hfh22
set_option maxHeartbeats 4000000 in
theorem g_X7_sendB {l : Launch} {D : va_G} {N : Nat} {pk : Int} {τ : List Nat} (hN2 : 2 ≤ N) (hN8 : N ≤ 8) (hp0 : 0 ≤ pk) (hp64 : pk ≤ 64) {h : List tC} (hw : WT N pk τ h) (a0 : Nat) (ta0 : τ[a0]? = some 7) (a1 : Int32) (la1 : 0 ≤ a1.toInt) (ua1 : a1.toInt ≤ 7) (a2 : Int32) (la2 : 0 ≤ a2.toInt) (ua2 : a2.toInt ≤ 11) (a3 : Int32) (la3 : 1 ≤ a3.toInt) (ua3 : a3.toInt ≤ 3) (a4 : Int32) (la4 : 0 ≤ a4.toInt) (ua4 : a4.toInt ≤ 7) (a5 : Int32) (la5 : -1 ≤ a5.toInt) (ua5 : a5.toInt ≤ 79) (a6 : Int32) : TMc l D yX7_send cX7_send 7 none 1 28 0 0 [.inr (some a0), .inl a1, .inl a2, .inl a3, .inl a4, .inl a5, .inl a6] h (fun rv h' => WT N pk τ h' ∧ Fr PMk τ h h' ∧ rv = none) := by
  refine tmc_of false rfl (by decide) (Nat.le_of_ble_eq_true rfl) ?_
  suffices HQ : ∀ Q0, Q0 = tRt cX7_send none (fun rv h' => WT N pk τ h' ∧ Fr PMk τ h h' ∧ rv = none) → TT l D mX7_send Q0 0 0 0 [(0, .inr (some a0)), (1, .inl a1), (2, .inl a2), (3, .inl a3), (4, .inl a4), (5, .inl a5), (6, .inl a6)] [] h from HQ _ rfl
  intro Q0 hQ
  have hf : Fr PMk τ h h := Fr.rf
  have B62 : ∀ (hb : List tC) (hwb : WT N pk τ hb) (hfb : Fr PMk τ h hb), TT l D mX7_send Q0 0 0 62 [] [] hb := by
    intro hb hwb hfb
    refine tt_stop ?_
    rw [hQ]
    exact Or.inl ⟨dX7_send_62, rfl, rfl, hwb, hfb, rfl⟩
  have ba6 := i_ty a6
  refine tt_aload_n (pc := 0) dX7_send_0 (.head _) ?_
  refine tt_iload_n (pc := 1) dX7_send_1 (.tail _ (.head _)) ?_
  refine tt_iload_n (pc := 2) dX7_send_2 (.tail _ (.tail _ (.head _))) ?_
  refine tt_iload_n (pc := 3) dX7_send_3 (.tail _ (.tail _ (.tail _ (.head _)))) ?_
  refine tt_iload (pc := 4) dX7_send_4 (.tail _ (.tail _ (.tail _ (.tail _ (.head _))))) ?_
  refine tt_iload (pc := 6) dX7_send_6 (.tail _ (.tail _ (.tail _ (.tail _ (.tail _ (.head _)))))) ?_
  refine tt_iload (pc := 8) dX7_send_8 (.tail _ (.tail _ (.tail _ (.tail _ (.tail _ (.tail _ (.head _))))))) ?_
  refine tw_callV (kc := 0) (ks := 0) (mc := 0) (ms := 0) (as := [.inl a1, .inl a2, .inl a3, .inl a4, .inl a5, .inl a6]) (st := []) (pc := 10) hw ta0 (by decide) dX7_send_10 lkX7_103 imX7_put seX7_put rfl rfl (by decide) (by decide) (Nat.le_of_ble_eq_true rfl) (g_X7_putB hN2 hN8 hp0 hp64 hw a0 ta0 a1 a2 (by omega) (by omega) a3 (by omega) (by omega) a4 (by omega) (by omega) a5 (by omega) (by omega) a6) (fun rv h28 qh28 => ?_)
  obtain ⟨wh28, fh28, x29, rfl, lx29, ux29⟩ := qh28
  have hfh28 := hf.tr (fh28.weak weak_PMq_PMk)
  show TT _ _ _ _ _ _ _ _ [.inl x29] _
  refine tw_if (tgt := 29) (pc := 13) dX7_send_13 (by decide) (fun (c30 : x29.toInt ≠ 0) => ?_) (fun (c30 : ¬ (x29.toInt ≠ 0)) => ?_)
  · skip
    refine tt_iload_n (pc := 29) dX7_send_29 (.tail _ (.tail _ (.tail _ (.head _)))) ?_
    refine tw_iconst (pc := 30) dX7_send_30 (by decide) (fun x31 ex31 => ?_)
    refine tw_icmp (tgt := 62) (pc := 31) dX7_send_31 (by decide) (fun (c32 : a3.toInt ≠ x31.toInt) => ?_) (fun (c32 : ¬ (a3.toInt ≠ x31.toInt)) => ?_)
    · skip
      refine tt_loc [] (fun _ z => absurd z List.not_mem_nil) ?_
      exact B62 h28 wh28 hfh28
    · skip
      refine tt_iload (pc := 34) dX7_send_34 (.tail _ (.tail _ (.tail _ (.tail _ (.tail _ (.head _)))))) ?_
      refine tw_bipush (pc := 36) dX7_send_36 (by decide) (fun x33 ex33 => ?_)
      refine tw_icmp (tgt := 62) (pc := 38) dX7_send_38 (by decide) (fun (c34 : a5.toInt < x33.toInt) => ?_) (fun (c34 : ¬ (a5.toInt < x33.toInt)) => ?_)
      · skip
        refine tt_loc [] (fun _ z => absurd z List.not_mem_nil) ?_
        exact B62 h28 wh28 hfh28
      · skip
        refine tt_aload_n (pc := 41) dX7_send_41 (.head _) ?_
        refine tw_getr (pc := 42) dX7_send_42 flX7_71 wh28 ta0 (by decide) rfl (fun f35 q36 ef35 gf35 tq36 => ?_)
        refine tw_bipush (pc := 45) dX7_send_45 (by decide) (fun x37 ex37 => ?_)
        refine tt_iload_n (pc := 47) dX7_send_47 (.tail _ (.head _)) ?_
        refine tw_imul (c := 64) (pc := 48) dX7_send_48 (by omega) (by omega) (fun x38 ex38 => ?_)
        refine tt_iload (pc := 49) dX7_send_49 (.tail _ (.tail _ (.tail _ (.tail _ (.tail _ (.head _)))))) ?_
        refine tw_iadd (pc := 51) dX7_send_51 (by omega) (fun x39 ex39 => ?_)
        refine tw_bipush (pc := 52) dX7_send_52 (by decide) (fun x40 ex40 => ?_)
        refine tw_isub (pc := 54) dX7_send_54 (by omega) (fun x41 ex41 => ?_)
        refine tt_dup2 (pc := 55) dX7_send_55 ?_
        refine tw_ild (pc := 56) dX7_send_56 wh28 tq36 rfl (by omega) (by omega) (fun f43 x42 ef43 gf43 lx42 ux42 => ?_)
        refine tw_iconst (pc := 57) dX7_send_57 (by decide) (fun x44 ex44 => ?_)
        refine tt_iload_n (pc := 58) dX7_send_58 (.tail _ (.tail _ (.head _))) ?_
        refine tt_ishl (pc := 59) dX7_send_59 ?_
        refine tw_any (fun x45 => ?_)
        have bx45 := i_ty x45
        refine tt_ior (pc := 60) dX7_send_60 ?_
        refine tw_any (fun x46 => ?_)
        have bx46 := i_ty x46
        refine tw_ist (P := PMk) (pc := 61) dX7_send_61 wh28 tq36 rfl (by omega) (by omega) (by omega) (by omega) (by decide) (fun f47 h48 eh48 gh48 kh48 wh48 fh48 => ?_)
        have hfh48 := hfh28.tr fh48
        refine tt_loc [] (fun _ z => absurd z List.not_mem_nil) ?_
        exact B62 h48 wh48 hfh48
  · skip
    refine tt_aload_n (pc := 16) dX7_send_16 (.head _) ?_
    refine tt_dup (pc := 17) dX7_send_17 ?_
    refine tw_geti (pc := 18) dX7_send_18 flX7_107 wh28 ta0 (by decide) rfl (fun f49 x50 ef49 gf49 lx50 ux50 => ?_)
    refine tw_iconst (pc := 21) dX7_send_21 (by decide) (fun x51 ex51 => ?_)
    refine tt_iadd (pc := 22) dX7_send_22 ?_
    refine tw_any (fun x52 => ?_)
    have bx52 := i_ty x52
    refine tw_put (P := PMk) (pc := 23) dX7_send_23 flX7_107 wh28 ta0 (by decide) rfl ⟨by omega, by omega⟩ rfl (by decide) (by decide) (fun f53 h54 eh54 gh54 kh54 wh54 fh54 => ?_)
    have hfh54 := hfh28.tr fh54
    refine tt_goto (tgt := 62) (pc := 26) dX7_send_26 (by decide) ?_
    refine tt_loc [] (fun _ z => absurd z List.not_mem_nil) ?_
    exact B62 h54 wh54 hfh54
abbrev mX7_sendAll : tM := (RX7, cX7_sendAll, 8, 2, 54, false)
set_option maxHeartbeats 4000000 in
theorem g_X7_sendAllA {l : Launch} {D : va_G} {N : Nat} {pk : Int} {τ : List Nat} (hN2 : 2 ≤ N) (hN8 : N ≤ 8) (hp0 : 0 ≤ pk) (hp64 : pk ≤ 64) {h : List tC} (hw : WT N pk τ h) (a0 : Nat) (ta0 : τ[a0]? = some 7) (a1 : Int32) (la1 : 0 ≤ a1.toInt) (ua1 : a1.toInt ≤ 7) (a2 : Int32) (a3 : Int32) (la3 : 0 ≤ a3.toInt) (ua3 : a3.toInt ≤ 0) (a4 : Int32) (la4 : 0 ≤ a4.toInt) (ua4 : a4.toInt ≤ 7) (a5 : Int32) (a6 : Int32) : TMc l D yX7_sendAll cX7_sendAll 8 none 2 54 0 0 [.inr (some a0), .inl a1, .inl a2, .inl a3, .inl a4, .inl a5, .inl a6] h (fun rv h' => WT N pk τ h' ∧ Fr PMk τ h h' ∧ rv = none) := by
  refine tmc_of false rfl (by decide) (Nat.le_of_ble_eq_true rfl) ?_
  suffices HQ : ∀ Q0, Q0 = tRt cX7_sendAll none (fun rv h' => WT N pk τ h' ∧ Fr PMk τ h h' ∧ rv = none) → TT l D mX7_sendAll Q0 0 0 0 [(0, .inr (some a0)), (1, .inl a1), (2, .inl a2), (3, .inl a3), (4, .inl a4), (5, .inl a5), (6, .inl a6)] [] h from HQ _ rfl
  intro Q0 hQ
  have hf : Fr PMk τ h h := Fr.rf
  have B3 : ∀ (n3 : Nat) (hb : List tC) (hwb : WT N pk τ hb) (hfb : Fr PMk τ h hb) (x90 : Int32) (lx90 : 0 ≤ x90.toInt) (ux90 : x90.toInt ≤ 12), 12 - x90.toInt < n3 → TT l D mX7_sendAll Q0 0 0 3 [(0, .inr (some a0)), (1, .inl a1), (2, .inl a2), (3, .inl a3), (4, .inl a4), (5, .inl a5), (6, .inl a6), (7, .inl x90)] [] hb := by
    intro n3
    induction n3 with
    | zero =>
      intro hb hwb hfb x90 lx90 ux90 hn3
      exfalso
      omega
    | succ n3 ih3 =>
      intro hb hwb hfb x90 lx90 ux90 hn3
      have B40 : ∀ (hb : List tC) (hwb : WT N pk τ hb) (hfb : Fr PMk τ h hb) (x91 : Int32) (lx91 : 0 ≤ x91.toInt) (ux91 : x91.toInt ≤ 11) (hn3 : 12 - x91.toInt < ((n3 + 1 : Nat) : Int)), TT l D mX7_sendAll Q0 0 0 40 [(0, .inr (some a0)), (1, .inl a1), (2, .inl a2), (3, .inl a3), (4, .inl a4), (5, .inl a5), (6, .inl a6), (7, .inl x91)] [] hb := by
        intro hb hwb hfb x91 lx91 ux91 hn3
        refine tw_iinc (pc := 40) dX7_sendAll_40 (.tail _ (.tail _ (.tail _ (.tail _ (.tail _ (.tail _ (.tail _ (.head _)))))))) (by decide) (by decide) (by omega) (fun x92 ex92 => ?_)
        show TT _ _ _ _ _ _ _ [(7, .inl x92), (0, .inr (some a0)), (1, .inl a1), (2, .inl a2), (3, .inl a3), (4, .inl a4), (5, .inl a5), (6, .inl a6)] _ _
        refine tt_goto (tgt := 3) (pc := 43) dX7_sendAll_43 (by decide) ?_
        refine tt_loc [(0, .inr (some a0)), (1, .inl a1), (2, .inl a2), (3, .inl a3), (4, .inl a4), (5, .inl a5), (6, .inl a6), (7, .inl x92)] (List.forall_mem_cons.mpr ⟨(.tail _ (.head _)), List.forall_mem_cons.mpr ⟨(.tail _ (.tail _ (.head _))), List.forall_mem_cons.mpr ⟨(.tail _ (.tail _ (.tail _ (.head _)))), List.forall_mem_cons.mpr ⟨(.tail _ (.tail _ (.tail _ (.tail _ (.head _))))), List.forall_mem_cons.mpr ⟨(.tail _ (.tail _ (.tail _ (.tail _ (.tail _ (.head _)))))), List.forall_mem_cons.mpr ⟨(.tail _ (.tail _ (.tail _ (.tail _ (.tail _ (.tail _ (.head _))))))), List.forall_mem_cons.mpr ⟨(.tail _ (.tail _ (.tail _ (.tail _ (.tail _ (.tail _ (.tail _ (.head _)))))))), List.forall_mem_cons.mpr ⟨(.head _), fun _ z => absurd z List.not_mem_nil⟩⟩⟩⟩⟩⟩⟩⟩) ?_
        exact ih3 hb hwb hfb x92 (by omega) (by omega) (by omega)
      refine tt_iload (pc := 3) dX7_sendAll_3 (.tail _ (.tail _ (.tail _ (.tail _ (.tail _ (.tail _ (.tail _ (.head _)))))))) ?_
      refine tw_bipush (pc := 5) dX7_sendAll_5 (by decide) (fun x93 ex93 => ?_)
      refine tw_icmp (tgt := 46) (pc := 7) dX7_sendAll_7 (by decide) (fun (c94 : x93.toInt ≤ x90.toInt) => ?_) (fun (c94 : ¬ (x93.toInt ≤ x90.toInt)) => ?_)
      · skip
        refine tt_stop ?_
        rw [hQ]
        exact Or.inl ⟨dX7_sendAll_46, rfl, rfl, hwb, hfb, rfl⟩
      · skip
        refine tt_iload (pc := 10) dX7_sendAll_10 (.tail _ (.tail _ (.tail _ (.tail _ (.tail _ (.tail _ (.tail _ (.head _)))))))) ?_
        refine tt_iload_n (pc := 12) dX7_sendAll_12 (.tail _ (.tail _ (.head _))) ?_
        refine tw_icmp (tgt := 40) (pc := 13) dX7_sendAll_13 (by decide) (fun (c95 : x90.toInt = a2.toInt) => ?_) (fun (c95 : ¬ (x90.toInt = a2.toInt)) => ?_)
        · skip
          refine tt_loc [(0, .inr (some a0)), (1, .inl a1), (2, .inl a2), (3, .inl a3), (4, .inl a4), (5, .inl a5), (6, .inl a6), (7, .inl x90)] (List.forall_mem_cons.mpr ⟨(.head _), List.forall_mem_cons.mpr ⟨(.tail _ (.head _)), List.forall_mem_cons.mpr ⟨(.tail _ (.tail _ (.head _))), List.forall_mem_cons.mpr ⟨(.tail _ (.tail _ (.tail _ (.head _)))), List.forall_mem_cons.mpr ⟨(.tail _ (.tail _ (.tail _ (.tail _ (.head _))))), List.forall_mem_cons.mpr ⟨(.tail _ (.tail _ (.tail _ (.tail _ (.tail _ (.head _)))))), List.forall_mem_cons.mpr ⟨(.tail _ (.tail _ (.tail _ (.tail _ (.tail _ (.tail _ (.head _))))))), List.forall_mem_cons.mpr ⟨(.tail _ (.tail _ (.tail _ (.tail _ (.tail _ (.tail _ (.tail _ (.head _)))))))), fun _ z => absurd z List.not_mem_nil⟩⟩⟩⟩⟩⟩⟩⟩) ?_
          exact B40 hb hwb hfb x90 (by omega) (by omega) (by omega)
        · skip
          refine tt_aload_n (pc := 16) dX7_sendAll_16 (.head _) ?_
          refine tt_iload_n (pc := 17) dX7_sendAll_17 (.tail _ (.head _)) ?_
          refine tt_iload (pc := 18) dX7_sendAll_18 (.tail _ (.tail _ (.tail _ (.tail _ (.tail _ (.tail _ (.tail _ (.head _)))))))) ?_
          refine tw_callV (kc := 0) (ks := 0) (mc := 0) (ms := 0) (as := [.inl a1, .inl x90]) (st := []) (pc := 20) hwb ta0 (by decide) dX7_sendAll_20 lkX7_110 imX7_isUp seX7_isUp rfl rfl (by decide) (by decide) (Nat.le_of_ble_eq_true rfl) (g_X7_isUp hN2 hN8 hp0 hp64 hwb a0 ta0 a1 x90 (by omega) (by omega)) (fun rv h96 qh96 => ?_)
          obtain ⟨rfl, x97, rfl, lx97, ux97⟩ := qh96
          show TT _ _ _ _ _ _ _ _ [.inl x97] _
          refine tw_if (tgt := 40) (pc := 23) dX7_sendAll_23 (by decide) (fun (c98 : x97.toInt = 0) => ?_) (fun (c98 : ¬ (x97.toInt = 0)) => ?_)
          · skip
            refine tt_loc [(0, .inr (some a0)), (1, .inl a1), (2, .inl a2), (3, .inl a3), (4, .inl a4), (5, .inl a5), (6, .inl a6), (7, .inl x90)] (List.forall_mem_cons.mpr ⟨(.head _), List.forall_mem_cons.mpr ⟨(.tail _ (.head _)), List.forall_mem_cons.mpr ⟨(.tail _ (.tail _ (.head _))), List.forall_mem_cons.mpr ⟨(.tail _ (.tail _ (.tail _ (.head _)))), List.forall_mem_cons.mpr ⟨(.tail _ (.tail _ (.tail _ (.tail _ (.head _))))), List.forall_mem_cons.mpr ⟨(.tail _ (.tail _ (.tail _ (.tail _ (.tail _ (.head _)))))), List.forall_mem_cons.mpr ⟨(.tail _ (.tail _ (.tail _ (.tail _ (.tail _ (.tail _ (.head _))))))), List.forall_mem_cons.mpr ⟨(.tail _ (.tail _ (.tail _ (.tail _ (.tail _ (.tail _ (.tail _ (.head _)))))))), fun _ z => absurd z List.not_mem_nil⟩⟩⟩⟩⟩⟩⟩⟩) ?_
            exact B40 hb hwb hfb x90 (by omega) (by omega) (by omega)
          · skip
            refine tt_aload_n (pc := 26) dX7_sendAll_26 (.head _) ?_
            refine tt_iload_n (pc := 27) dX7_sendAll_27 (.tail _ (.head _)) ?_
            refine tt_iload (pc := 28) dX7_sendAll_28 (.tail _ (.tail _ (.tail _ (.tail _ (.tail _ (.tail _ (.tail _ (.head _)))))))) ?_
            refine tt_iload_n (pc := 30) dX7_sendAll_30 (.tail _ (.tail _ (.tail _ (.head _)))) ?_
            refine tt_iload (pc := 31) dX7_sendAll_31 (.tail _ (.tail _ (.tail _ (.tail _ (.head _))))) ?_
            refine tt_iload (pc := 33) dX7_sendAll_33 (.tail _ (.tail _ (.tail _ (.tail _ (.tail _ (.head _)))))) ?_
            refine tt_iload (pc := 35) dX7_sendAll_35 (.tail _ (.tail _ (.tail _ (.tail _ (.tail _ (.tail _ (.head _))))))) ?_
            refine tw_callV (kc := 0) (ks := 0) (mc := 0) (ms := 0) (as := [.inl a1, .inl x90, .inl a3, .inl a4, .inl a5, .inl a6]) (st := []) (pc := 37) hwb ta0 (by decide) dX7_sendAll_37 lkX7_113 imX7_send seX7_send rfl rfl (by decide) (by decide) (Nat.le_of_ble_eq_true rfl) (g_X7_sendA hN2 hN8 hp0 hp64 hwb a0 ta0 a1 (by omega) (by omega) x90 (by omega) (by omega) a3 (by omega) (by omega) a4 (by omega) (by omega) a5 a6) (fun rv h99 qh99 => ?_)
            obtain ⟨wh99, fh99, rfl⟩ := qh99
            have hfh99 := hfb.tr fh99
            show TT _ _ _ _ _ _ _ _ [] _
            refine tt_loc [(0, .inr (some a0)), (1, .inl a1), (2, .inl a2), (3, .inl a3), (4, .inl a4), (5, .inl a5), (6, .inl a6), (7, .inl x90)] (List.forall_mem_cons.mpr ⟨(.head _), List.forall_mem_cons.mpr ⟨(.tail _ (.head _)), List.forall_mem_cons.mpr ⟨(.tail _ (.tail _ (.head _))), List.forall_mem_cons.mpr ⟨(.tail _ (.tail _ (.tail _ (.head _)))), List.forall_mem_cons.mpr ⟨(.tail _ (.tail _ (.tail _ (.tail _ (.head _))))), List.forall_mem_cons.mpr ⟨(.tail _ (.tail _ (.tail _ (.tail _ (.tail _ (.head _)))))), List.forall_mem_cons.mpr ⟨(.tail _ (.tail _ (.tail _ (.tail _ (.tail _ (.tail _ (.head _))))))), List.forall_mem_cons.mpr ⟨(.tail _ (.tail _ (.tail _ (.tail _ (.tail _ (.tail _ (.tail _ (.head _)))))))), fun _ z => absurd z List.not_mem_nil⟩⟩⟩⟩⟩⟩⟩⟩) ?_
            exact B40 h99 wh99 hfh99 x90 (by omega) (by omega) (by omega)
  have ba2 := i_ty a2
  have ba5 := i_ty a5
  have ba6 := i_ty a6
  refine tw_iconst (pc := 0) dX7_sendAll_0 (by decide) (fun x100 ex100 => ?_)
  refine tt_istore (pc := 1) dX7_sendAll_1 (by decide) ?_
  show TT _ _ _ _ _ _ _ [(7, .inl x100), (0, .inr (some a0)), (1, .inl a1), (2, .inl a2), (3, .inl a3), (4, .inl a4), (5, .inl a5), (6, .inl a6)] _ _
  refine tt_loc [(0, .inr (some a0)), (1, .inl a1), (2, .inl a2), (3, .inl a3), (4, .inl a4), (5, .inl a5), (6, .inl a6), (7, .inl x100)] (List.forall_mem_cons.mpr ⟨(.tail _ (.head _)), List.forall_mem_cons.mpr ⟨(.tail _ (.tail _ (.head _))), List.forall_mem_cons.mpr ⟨(.tail _ (.tail _ (.tail _ (.head _)))), List.forall_mem_cons.mpr ⟨(.tail _ (.tail _ (.tail _ (.tail _ (.head _))))), List.forall_mem_cons.mpr ⟨(.tail _ (.tail _ (.tail _ (.tail _ (.tail _ (.head _)))))), List.forall_mem_cons.mpr ⟨(.tail _ (.tail _ (.tail _ (.tail _ (.tail _ (.tail _ (.head _))))))), List.forall_mem_cons.mpr ⟨(.tail _ (.tail _ (.tail _ (.tail _ (.tail _ (.tail _ (.tail _ (.head _)))))))), List.forall_mem_cons.mpr ⟨(.head _), fun _ z => absurd z List.not_mem_nil⟩⟩⟩⟩⟩⟩⟩⟩) ?_
  exact B3 13 h hw hf x100 (by omega) (by omega) (by omega)
set_option maxHeartbeats 4000000 in
theorem g_X7_sendAllB {l : Launch} {D : va_G} {N : Nat} {pk : Int} {τ : List Nat} (hN2 : 2 ≤ N) (hN8 : N ≤ 8) (hp0 : 0 ≤ pk) (hp64 : pk ≤ 64) {h : List tC} (hw : WT N pk τ h) (a0 : Nat) (ta0 : τ[a0]? = some 7) (a1 : Int32) (la1 : 0 ≤ a1.toInt) (ua1 : a1.toInt ≤ 7) (a2 : Int32) (a3 : Int32) (la3 : 1 ≤ a3.toInt) (ua3 : a3.toInt ≤ 3) (a4 : Int32) (la4 : 0 ≤ a4.toInt) (ua4 : a4.toInt ≤ 7) (a5 : Int32) (la5 : -1 ≤ a5.toInt) (ua5 : a5.toInt ≤ 79) (a6 : Int32) : TMc l D yX7_sendAll cX7_sendAll 8 none 2 54 0 0 [.inr (some a0), .inl a1, .inl a2, .inl a3, .inl a4, .inl a5, .inl a6] h (fun rv h' => WT N pk τ h' ∧ Fr PMk τ h h' ∧ rv = none) := by
  refine tmc_of false rfl (by decide) (Nat.le_of_ble_eq_true rfl) ?_
  suffices HQ : ∀ Q0, Q0 = tRt cX7_sendAll none (fun rv h' => WT N pk τ h' ∧ Fr PMk τ h h' ∧ rv = none) → TT l D mX7_sendAll Q0 0 0 0 [(0, .inr (some a0)), (1, .inl a1), (2, .inl a2), (3, .inl a3), (4, .inl a4), (5, .inl a5), (6, .inl a6)] [] h from HQ _ rfl
  intro Q0 hQ
  have hf : Fr PMk τ h h := Fr.rf
  have B3 : ∀ (n3 : Nat) (hb : List tC) (hwb : WT N pk τ hb) (hfb : Fr PMk τ h hb) (x90 : Int32) (lx90 : 0 ≤ x90.toInt) (ux90 : x90.toInt ≤ 12), 12 - x90.toInt < n3 → TT l D mX7_sendAll Q0 0 0 3 [(0, .inr (some a0)), (1, .inl a1), (2, .inl a2), (3, .inl a3), (4, .inl a4), (5, .inl a5), (6, .inl a6), (7, .inl x90)] [] hb := by
    intro n3
    induction n3 with
    | zero =>
      intro hb hwb hfb x90 lx90 ux90 hn3
      exfalso
      omega
    | succ n3 ih3 =>
      intro hb hwb hfb x90 lx90 ux90 hn3
      have B40 : ∀ (hb : List tC) (hwb : WT N pk τ hb) (hfb : Fr PMk τ h hb) (x91 : Int32) (lx91 : 0 ≤ x91.toInt) (ux91 : x91.toInt ≤ 11) (hn3 : 12 - x91.toInt < ((n3 + 1 : Nat) : Int)), TT l D mX7_sendAll Q0 0 0 40 [(0, .inr (some a0)), (1, .inl a1), (2, .inl a2), (3, .inl a3), (4, .inl a4), (5, .inl a5), (6, .inl a6), (7, .inl x91)] [] hb := by
        intro hb hwb hfb x91 lx91 ux91 hn3
        refine tw_iinc (pc := 40) dX7_sendAll_40 (.tail _ (.tail _ (.tail _ (.tail _ (.tail _ (.tail _ (.tail _ (.head _)))))))) (by decide) (by decide) (by omega) (fun x92 ex92 => ?_)
        show TT _ _ _ _ _ _ _ [(7, .inl x92), (0, .inr (some a0)), (1, .inl a1), (2, .inl a2), (3, .inl a3), (4, .inl a4), (5, .inl a5), (6, .inl a6)] _ _
        refine tt_goto (tgt := 3) (pc := 43) dX7_sendAll_43 (by decide) ?_
        refine tt_loc [(0, .inr (some a0)), (1, .inl a1), (2, .inl a2), (3, .inl a3), (4, .inl a4), (5, .inl a5), (6, .inl a6), (7, .inl x92)] (List.forall_mem_cons.mpr ⟨(.tail _ (.head _)), List.forall_mem_cons.mpr ⟨(.tail _ (.tail _ (.head _))), List.forall_mem_cons.mpr ⟨(.tail _ (.tail _ (.tail _ (.head _)))), List.forall_mem_cons.mpr ⟨(.tail _ (.tail _ (.tail _ (.tail _ (.head _))))), List.forall_mem_cons.mpr ⟨(.tail _ (.tail _ (.tail _ (.tail _ (.tail _ (.head _)))))), List.forall_mem_cons.mpr ⟨(.tail _ (.tail _ (.tail _ (.tail _ (.tail _ (.tail _ (.head _))))))), List.forall_mem_cons.mpr ⟨(.tail _ (.tail _ (.tail _ (.tail _ (.tail _ (.tail _ (.tail _ (.head _)))))))), List.forall_mem_cons.mpr ⟨(.head _), fun _ z => absurd z List.not_mem_nil⟩⟩⟩⟩⟩⟩⟩⟩) ?_
        exact ih3 hb hwb hfb x92 (by omega) (by omega) (by omega)
      refine tt_iload (pc := 3) dX7_sendAll_3 (.tail _ (.tail _ (.tail _ (.tail _ (.tail _ (.tail _ (.tail _ (.head _)))))))) ?_
      refine tw_bipush (pc := 5) dX7_sendAll_5 (by decide) (fun x93 ex93 => ?_)
      refine tw_icmp (tgt := 46) (pc := 7) dX7_sendAll_7 (by decide) (fun (c94 : x93.toInt ≤ x90.toInt) => ?_) (fun (c94 : ¬ (x93.toInt ≤ x90.toInt)) => ?_)
      · skip
        refine tt_stop ?_
        rw [hQ]
        exact Or.inl ⟨dX7_sendAll_46, rfl, rfl, hwb, hfb, rfl⟩
      · skip
        refine tt_iload (pc := 10) dX7_sendAll_10 (.tail _ (.tail _ (.tail _ (.tail _ (.tail _ (.tail _ (.tail _ (.head _)))))))) ?_
        refine tt_iload_n (pc := 12) dX7_sendAll_12 (.tail _ (.tail _ (.head _))) ?_
        refine tw_icmp (tgt := 40) (pc := 13) dX7_sendAll_13 (by decide) (fun (c95 : x90.toInt = a2.toInt) => ?_) (fun (c95 : ¬ (x90.toInt = a2.toInt)) => ?_)
        · skip
          refine tt_loc [(0, .inr (some a0)), (1, .inl a1), (2, .inl a2), (3, .inl a3), (4, .inl a4), (5, .inl a5), (6, .inl a6), (7, .inl x90)] (List.forall_mem_cons.mpr ⟨(.head _), List.forall_mem_cons.mpr ⟨(.tail _ (.head _)), List.forall_mem_cons.mpr ⟨(.tail _ (.tail _ (.head _))), List.forall_mem_cons.mpr ⟨(.tail _ (.tail _ (.tail _ (.head _)))), List.forall_mem_cons.mpr ⟨(.tail _ (.tail _ (.tail _ (.tail _ (.head _))))), List.forall_mem_cons.mpr ⟨(.tail _ (.tail _ (.tail _ (.tail _ (.tail _ (.head _)))))), List.forall_mem_cons.mpr ⟨(.tail _ (.tail _ (.tail _ (.tail _ (.tail _ (.tail _ (.head _))))))), List.forall_mem_cons.mpr ⟨(.tail _ (.tail _ (.tail _ (.tail _ (.tail _ (.tail _ (.tail _ (.head _)))))))), fun _ z => absurd z List.not_mem_nil⟩⟩⟩⟩⟩⟩⟩⟩) ?_
          exact B40 hb hwb hfb x90 (by omega) (by omega) (by omega)
        · skip
          refine tt_aload_n (pc := 16) dX7_sendAll_16 (.head _) ?_
          refine tt_iload_n (pc := 17) dX7_sendAll_17 (.tail _ (.head _)) ?_
          refine tt_iload (pc := 18) dX7_sendAll_18 (.tail _ (.tail _ (.tail _ (.tail _ (.tail _ (.tail _ (.tail _ (.head _)))))))) ?_
          refine tw_callV (kc := 0) (ks := 0) (mc := 0) (ms := 0) (as := [.inl a1, .inl x90]) (st := []) (pc := 20) hwb ta0 (by decide) dX7_sendAll_20 lkX7_110 imX7_isUp seX7_isUp rfl rfl (by decide) (by decide) (Nat.le_of_ble_eq_true rfl) (g_X7_isUp hN2 hN8 hp0 hp64 hwb a0 ta0 a1 x90 (by omega) (by omega)) (fun rv h96 qh96 => ?_)
          obtain ⟨rfl, x97, rfl, lx97, ux97⟩ := qh96
          show TT _ _ _ _ _ _ _ _ [.inl x97] _
          refine tw_if (tgt := 40) (pc := 23) dX7_sendAll_23 (by decide) (fun (c98 : x97.toInt = 0) => ?_) (fun (c98 : ¬ (x97.toInt = 0)) => ?_)
          · skip
            refine tt_loc [(0, .inr (some a0)), (1, .inl a1), (2, .inl a2), (3, .inl a3), (4, .inl a4), (5, .inl a5), (6, .inl a6), (7, .inl x90)] (List.forall_mem_cons.mpr ⟨(.head _), List.forall_mem_cons.mpr ⟨(.tail _ (.head _)), List.forall_mem_cons.mpr ⟨(.tail _ (.tail _ (.head _))), List.forall_mem_cons.mpr ⟨(.tail _ (.tail _ (.tail _ (.head _)))), List.forall_mem_cons.mpr ⟨(.tail _ (.tail _ (.tail _ (.tail _ (.head _))))), List.forall_mem_cons.mpr ⟨(.tail _ (.tail _ (.tail _ (.tail _ (.tail _ (.head _)))))), List.forall_mem_cons.mpr ⟨(.tail _ (.tail _ (.tail _ (.tail _ (.tail _ (.tail _ (.head _))))))), List.forall_mem_cons.mpr ⟨(.tail _ (.tail _ (.tail _ (.tail _ (.tail _ (.tail _ (.tail _ (.head _)))))))), fun _ z => absurd z List.not_mem_nil⟩⟩⟩⟩⟩⟩⟩⟩) ?_
            exact B40 hb hwb hfb x90 (by omega) (by omega) (by omega)
          · skip
            refine tt_aload_n (pc := 26) dX7_sendAll_26 (.head _) ?_
            refine tt_iload_n (pc := 27) dX7_sendAll_27 (.tail _ (.head _)) ?_
            refine tt_iload (pc := 28) dX7_sendAll_28 (.tail _ (.tail _ (.tail _ (.tail _ (.tail _ (.tail _ (.tail _ (.head _)))))))) ?_
            refine tt_iload_n (pc := 30) dX7_sendAll_30 (.tail _ (.tail _ (.tail _ (.head _)))) ?_
            refine tt_iload (pc := 31) dX7_sendAll_31 (.tail _ (.tail _ (.tail _ (.tail _ (.head _))))) ?_
            refine tt_iload (pc := 33) dX7_sendAll_33 (.tail _ (.tail _ (.tail _ (.tail _ (.tail _ (.head _)))))) ?_
            refine tt_iload (pc := 35) dX7_sendAll_35 (.tail _ (.tail _ (.tail _ (.tail _ (.tail _ (.tail _ (.head _))))))) ?_
            refine tw_callV (kc := 0) (ks := 0) (mc := 0) (ms := 0) (as := [.inl a1, .inl x90, .inl a3, .inl a4, .inl a5, .inl a6]) (st := []) (pc := 37) hwb ta0 (by decide) dX7_sendAll_37 lkX7_113 imX7_send seX7_send rfl rfl (by decide) (by decide) (Nat.le_of_ble_eq_true rfl) (g_X7_sendB hN2 hN8 hp0 hp64 hwb a0 ta0 a1 (by omega) (by omega) x90 (by omega) (by omega) a3 (by omega) (by omega) a4 (by omega) (by omega) a5 (by omega) (by omega) a6) (fun rv h99 qh99 => ?_)
            obtain ⟨wh99, fh99, rfl⟩ := qh99
            have hfh99 := hfb.tr fh99
            show TT _ _ _ _ _ _ _ _ [] _
            refine tt_loc [(0, .inr (some a0)), (1, .inl a1), (2, .inl a2), (3, .inl a3), (4, .inl a4), (5, .inl a5), (6, .inl a6), (7, .inl x90)] (List.forall_mem_cons.mpr ⟨(.head _), List.forall_mem_cons.mpr ⟨(.tail _ (.head _)), List.forall_mem_cons.mpr ⟨(.tail _ (.tail _ (.head _))), List.forall_mem_cons.mpr ⟨(.tail _ (.tail _ (.tail _ (.head _)))), List.forall_mem_cons.mpr ⟨(.tail _ (.tail _ (.tail _ (.tail _ (.head _))))), List.forall_mem_cons.mpr ⟨(.tail _ (.tail _ (.tail _ (.tail _ (.tail _ (.head _)))))), List.forall_mem_cons.mpr ⟨(.tail _ (.tail _ (.tail _ (.tail _ (.tail _ (.tail _ (.head _))))))), List.forall_mem_cons.mpr ⟨(.tail _ (.tail _ (.tail _ (.tail _ (.tail _ (.tail _ (.tail _ (.head _)))))))), fun _ z => absurd z List.not_mem_nil⟩⟩⟩⟩⟩⟩⟩⟩) ?_
            exact B40 h99 wh99 hfh99 x90 (by omega) (by omega) (by omega)
  have ba2 := i_ty a2
  have ba6 := i_ty a6
  refine tw_iconst (pc := 0) dX7_sendAll_0 (by decide) (fun x100 ex100 => ?_)
  refine tt_istore (pc := 1) dX7_sendAll_1 (by decide) ?_
  show TT _ _ _ _ _ _ _ [(7, .inl x100), (0, .inr (some a0)), (1, .inl a1), (2, .inl a2), (3, .inl a3), (4, .inl a4), (5, .inl a5), (6, .inl a6)] _ _
  refine tt_loc [(0, .inr (some a0)), (1, .inl a1), (2, .inl a2), (3, .inl a3), (4, .inl a4), (5, .inl a5), (6, .inl a6), (7, .inl x100)] (List.forall_mem_cons.mpr ⟨(.tail _ (.head _)), List.forall_mem_cons.mpr ⟨(.tail _ (.tail _ (.head _))), List.forall_mem_cons.mpr ⟨(.tail _ (.tail _ (.tail _ (.head _)))), List.forall_mem_cons.mpr ⟨(.tail _ (.tail _ (.tail _ (.tail _ (.head _))))), List.forall_mem_cons.mpr ⟨(.tail _ (.tail _ (.tail _ (.tail _ (.tail _ (.head _)))))), List.forall_mem_cons.mpr ⟨(.tail _ (.tail _ (.tail _ (.tail _ (.tail _ (.tail _ (.head _))))))), List.forall_mem_cons.mpr ⟨(.tail _ (.tail _ (.tail _ (.tail _ (.tail _ (.tail _ (.tail _ (.head _)))))))), List.forall_mem_cons.mpr ⟨(.head _), fun _ z => absurd z List.not_mem_nil⟩⟩⟩⟩⟩⟩⟩⟩) ?_
  exact B3 13 h hw hf x100 (by omega) (by omega) (by omega)
abbrev mX7_tell : tM := (RX7, cX7_tell, 5, 3, 81, false)
set_option maxHeartbeats 4000000 in
theorem g_X7_tell {l : Launch} {D : va_G} {N : Nat} {pk : Int} {τ : List Nat} (hN2 : 2 ≤ N) (hN8 : N ≤ 8) (hp0 : 0 ≤ pk) (hp64 : pk ≤ 64) {h : List tC} (hw : WT N pk τ h) (a0 : Nat) (ta0 : τ[a0]? = some 7) (a1 : Int32) (la1 : 0 ≤ a1.toInt) (ua1 : a1.toInt ≤ 7) : TMc l D yX7_tell cX7_tell 5 none 3 81 0 0 [.inr (some a0), .inl a1] h (fun rv h' => WT N pk τ h' ∧ Fr PM τ h h' ∧ rv = none) := by
  refine tmc_of false rfl (by decide) (Nat.le_of_ble_eq_true rfl) ?_
  suffices HQ : ∀ Q0, Q0 = tRt cX7_tell none (fun rv h' => WT N pk τ h' ∧ Fr PM τ h h' ∧ rv = none) → TT l D mX7_tell Q0 0 0 0 [(0, .inr (some a0)), (1, .inl a1)] [] h from HQ _ rfl
  intro Q0 hQ
  have hf : Fr PM τ h h := Fr.rf
  have B44 : ∀ (n44 : Nat) (hb : List tC) (hwb : WT N pk τ hb) (hfb : Fr PM τ h hb) (x292 : Int32) (x293 : Int32) (x294 : Int32) (lx294 : 0 ≤ x294.toInt) (ux294 : x294.toInt ≤ 8), 8 - x294.toInt < n44 → TT l D mX7_tell Q0 0 0 44 [(0, .inr (some a0)), (1, .inl a1), (2, .inl x292), (3, .inl x293), (4, .inl x294)] [] hb := by
    intro n44
    induction n44 with
    | zero =>
      intro hb hwb hfb x292 x293 x294 lx294 ux294 hn44
      exfalso
      omega
    | succ n44 ih44 =>
      intro hb hwb hfb x292 x293 x294 lx294 ux294 hn44
      have bx292 := i_ty x292
      have bx293 := i_ty x293
      refine tt_iload (pc := 44) dX7_tell_44 (.tail _ (.tail _ (.tail _ (.tail _ (.head _))))) ?_
      refine tw_bipush (pc := 46) dX7_tell_46 (by decide) (fun x295 ex295 => ?_)
      refine tw_icmp (tgt := 79) (pc := 48) dX7_tell_48 (by decide) (fun (c296 : x295.toInt ≤ x294.toInt) => ?_) (fun (c296 : ¬ (x295.toInt ≤ x294.toInt)) => ?_)
      · skip
        refine tt_aload_n (pc := 79) dX7_tell_79 (.head _) ?_
        refine tw_getr (pc := 80) dX7_tell_80 flX7_29 hwb ta0 (by decide) rfl (fun f297 q298 ef297 gf297 tq298 => ?_)
        refine tw_bipush (pc := 83) dX7_tell_83 (by decide) (fun x299 ex299 => ?_)
        refine tt_iload_n (pc := 85) dX7_tell_85 (.tail _ (.head _)) ?_
        refine tw_imul (c := 9) (pc := 86) dX7_tell_86 (by omega) (by omega) (fun x300 ex300 => ?_)
        refine tt_dup2 (pc := 87) dX7_tell_87 ?_
        refine tw_ild (pc := 88) dX7_tell_88 hwb tq298 rfl (by omega) (by omega) (fun f302 x301 ef302 gf302 lx301 ux301 => ?_)
        refine tw_iconst (pc := 89) dX7_tell_89 (by decide) (fun x303 ex303 => ?_)
        refine tt_iadd (pc := 90) dX7_tell_90 ?_
        refine tw_any (fun x304 => ?_)
        have bx304 := i_ty x304
        refine tw_ist (P := PM) (pc := 91) dX7_tell_91 hwb tq298 rfl (by omega) (by omega) (by omega) (by omega) (by decide) (fun f305 h306 eh306 gh306 kh306 wh306 fh306 => ?_)
        have hfh306 := hfb.tr fh306
        refine tt_aload_n (pc := 92) dX7_tell_92 (.head _) ?_
        refine tw_getr (pc := 93) dX7_tell_93 flX7_32 wh306 ta0 (by decide) rfl (fun f307 q308 ef307 gf307 tq308 => ?_)
        refine tw_bipush (pc := 96) dX7_tell_96 (by decide) (fun x309 ex309 => ?_)
        refine tt_iload_n (pc := 98) dX7_tell_98 (.tail _ (.head _)) ?_
        refine tw_imul (c := 9) (pc := 99) dX7_tell_99 (by omega) (by omega) (fun x310 ex310 => ?_)
        refine tt_iload_n (pc := 100) dX7_tell_100 (.tail _ (.tail _ (.head _))) ?_
        refine tw_ist (P := PM) (pc := 101) dX7_tell_101 wh306 tq308 rfl (by omega) (by omega) (by omega) (by omega) (by decide) (fun f311 h312 eh312 gh312 kh312 wh312 fh312 => ?_)
        have hfh312 := hfh306.tr fh312
        refine tt_aload_n (pc := 102) dX7_tell_102 (.head _) ?_
        refine tw_getr (pc := 103) dX7_tell_103 flX7_35 wh312 ta0 (by decide) rfl (fun f313 q314 ef313 gf313 tq314 => ?_)
        refine tw_bipush (pc := 106) dX7_tell_106 (by decide) (fun x315 ex315 => ?_)
        refine tt_iload_n (pc := 108) dX7_tell_108 (.tail _ (.head _)) ?_
        refine tw_imul (c := 9) (pc := 109) dX7_tell_109 (by omega) (by omega) (fun x316 ex316 => ?_)
        refine tt_iload_n (pc := 110) dX7_tell_110 (.tail _ (.tail _ (.tail _ (.head _)))) ?_
        refine tw_ist (P := PM) (pc := 111) dX7_tell_111 wh312 tq314 rfl (by omega) (by omega) (by omega) (by omega) (by decide) (fun f317 h318 eh318 gh318 kh318 wh318 fh318 => ?_)
        have hfh318 := hfh312.tr fh318
        refine tt_aload_n (pc := 112) dX7_tell_112 (.head _) ?_
        refine tt_iload_n (pc := 113) dX7_tell_113 (.tail _ (.head _)) ?_
        refine tw_iconst (pc := 114) dX7_tell_114 (by decide) (fun x319 ex319 => ?_)
        refine tw_iconst (pc := 115) dX7_tell_115 (by decide) (fun x320 ex320 => ?_)
        refine tt_iload_n (pc := 116) dX7_tell_116 (.tail _ (.head _)) ?_
        refine tt_aload_n (pc := 117) dX7_tell_117 (.head _) ?_
        refine tw_getr (pc := 118) dX7_tell_118 flX7_29 wh318 ta0 (by decide) rfl (fun f321 q322 ef321 gf321 tq322 => ?_)
        refine tw_bipush (pc := 121) dX7_tell_121 (by decide) (fun x323 ex323 => ?_)
        refine tt_iload_n (pc := 123) dX7_tell_123 (.tail _ (.head _)) ?_
        refine tw_imul (c := 9) (pc := 124) dX7_tell_124 (by omega) (by omega) (fun x324 ex324 => ?_)
        refine tw_ild (pc := 125) dX7_tell_125 wh318 tq322 rfl (by omega) (by omega) (fun f326 x325 ef326 gf326 lx325 ux325 => ?_)
        refine tt_aload_n (pc := 126) dX7_tell_126 (.head _) ?_
        refine tt_iload_n (pc := 127) dX7_tell_127 (.tail _ (.head _)) ?_
        refine tt_iload_n (pc := 128) dX7_tell_128 (.tail _ (.head _)) ?_
        refine tw_callV (kc := 0) (ks := 0) (mc := 0) (ms := 0) (as := [.inl a1, .inl a1]) (st := [.inl x325, .inl a1, .inl x320, .inl x319, .inl a1, .inr (some a0)]) (pc := 129) wh318 ta0 (by decide) dX7_tell_129 lkX7_117 imX7_bodyOf seX7_bodyOf rfl rfl (by decide) (by decide) (Nat.le_of_ble_eq_true rfl) (g_X7_bodyOf hN2 hN8 hp0 hp64 wh318 a0 ta0 a1 (by omega) (by omega) a1 (by omega) (by omega)) (fun rv h327 qh327 => ?_)
        obtain ⟨rfl, x328, rfl, lx328, ux328⟩ := qh327
        show TT _ _ _ _ _ _ _ _ [.inl x328, .inl x325, .inl a1, .inl x320, .inl x319, .inl a1, .inr (some a0)] _
        refine tw_callV (kc := 0) (ks := 0) (mc := 0) (ms := 0) (as := [.inl a1, .inl x319, .inl x320, .inl a1, .inl x325, .inl x328]) (st := []) (pc := 132) wh318 ta0 (by decide) dX7_tell_132 lkX7_121 imX7_sendAll seX7_sendAll rfl rfl (by decide) (by decide) (Nat.le_of_ble_eq_true rfl) (g_X7_sendAllA hN2 hN8 hp0 hp64 wh318 a0 ta0 a1 (by omega) (by omega) x319 x320 (by omega) (by omega) a1 (by omega) (by omega) x325 x328) (fun rv h329 qh329 => ?_)
        obtain ⟨wh329, fh329, rfl⟩ := qh329
        have hfh329 := hfh318.tr (fh329.weak weak_PMk_PM)
        show TT _ _ _ _ _ _ _ _ [] _
        refine tt_stop ?_
        rw [hQ]
        exact Or.inl ⟨dX7_tell_135, rfl, rfl, wh329, hfh329, rfl⟩
      · skip
        refine tt_iload_n (pc := 51) dX7_tell_51 (.tail _ (.tail _ (.tail _ (.head _)))) ?_
        refine tt_aload_n (pc := 52) dX7_tell_52 (.head _) ?_
        refine tw_getr (pc := 53) dX7_tell_53 flX7_26 hwb ta0 (by decide) rfl (fun f330 q331 ef330 gf330 tq331 => ?_)
        refine tt_iload (pc := 56) dX7_tell_56 (.tail _ (.tail _ (.tail _ (.tail _ (.head _))))) ?_
        refine tw_ild (pc := 58) dX7_tell_58 hwb tq331 rfl (by omega) (by omega) (fun f333 x332 ef333 gf333 lx332 ux332 => ?_)
        refine tt_iload_n (pc := 59) dX7_tell_59 (.tail _ (.head _)) ?_
        refine tw_icmp (tgt := 70) (pc := 60) dX7_tell_60 (by decide) (fun (c334 : x332.toInt ≠ a1.toInt) => ?_) (fun (c334 : ¬ (x332.toInt ≠ a1.toInt)) => ?_)
        · skip
          refine tw_iconst (pc := 70) dX7_tell_70 (by decide) (fun x335 ex335 => ?_)
          refine tt_ior (pc := 71) dX7_tell_71 ?_
          refine tw_any (fun x336 => ?_)
          have bx336 := i_ty x336
          refine tt_istore_n (pc := 72) dX7_tell_72 (by decide) ?_
          show TT _ _ _ _ _ _ _ [(3, .inl x336), (0, .inr (some a0)), (1, .inl a1), (2, .inl x292), (4, .inl x294)] _ _
          refine tw_iinc (pc := 73) dX7_tell_73 (.tail _ (.tail _ (.tail _ (.tail _ (.head _))))) (by decide) (by decide) (by omega) (fun x337 ex337 => ?_)
          show TT _ _ _ _ _ _ _ [(4, .inl x337), (3, .inl x336), (0, .inr (some a0)), (1, .inl a1), (2, .inl x292)] _ _
          refine tt_goto (tgt := 44) (pc := 76) dX7_tell_76 (by decide) ?_
          refine tt_loc [(0, .inr (some a0)), (1, .inl a1), (2, .inl x292), (3, .inl x336), (4, .inl x337)] (List.forall_mem_cons.mpr ⟨(.tail _ (.tail _ (.head _))), List.forall_mem_cons.mpr ⟨(.tail _ (.tail _ (.tail _ (.head _)))), List.forall_mem_cons.mpr ⟨(.tail _ (.tail _ (.tail _ (.tail _ (.head _))))), List.forall_mem_cons.mpr ⟨(.tail _ (.head _)), List.forall_mem_cons.mpr ⟨(.head _), fun _ z => absurd z List.not_mem_nil⟩⟩⟩⟩⟩) ?_
          exact ih44 hb hwb hfb x292 x336 x337 (by omega) (by omega) (by omega)
        · skip
          refine tw_iconst (pc := 63) dX7_tell_63 (by decide) (fun x338 ex338 => ?_)
          refine tt_iload (pc := 64) dX7_tell_64 (.tail _ (.tail _ (.tail _ (.tail _ (.head _))))) ?_
          refine tt_ishl (pc := 66) dX7_tell_66 ?_
          refine tw_any (fun x339 => ?_)
          have bx339 := i_ty x339
          refine tt_goto (tgt := 71) (pc := 67) dX7_tell_67 (by decide) ?_
          refine tt_ior (pc := 71) dX7_tell_71 ?_
          refine tw_any (fun x340 => ?_)
          have bx340 := i_ty x340
          refine tt_istore_n (pc := 72) dX7_tell_72 (by decide) ?_
          show TT _ _ _ _ _ _ _ [(3, .inl x340), (0, .inr (some a0)), (1, .inl a1), (2, .inl x292), (4, .inl x294)] _ _
          refine tw_iinc (pc := 73) dX7_tell_73 (.tail _ (.tail _ (.tail _ (.tail _ (.head _))))) (by decide) (by decide) (by omega) (fun x341 ex341 => ?_)
          show TT _ _ _ _ _ _ _ [(4, .inl x341), (3, .inl x340), (0, .inr (some a0)), (1, .inl a1), (2, .inl x292)] _ _
          refine tt_goto (tgt := 44) (pc := 76) dX7_tell_76 (by decide) ?_
          refine tt_loc [(0, .inr (some a0)), (1, .inl a1), (2, .inl x292), (3, .inl x340), (4, .inl x341)] (List.forall_mem_cons.mpr ⟨(.tail _ (.tail _ (.head _))), List.forall_mem_cons.mpr ⟨(.tail _ (.tail _ (.tail _ (.head _)))), List.forall_mem_cons.mpr ⟨(.tail _ (.tail _ (.tail _ (.tail _ (.head _))))), List.forall_mem_cons.mpr ⟨(.tail _ (.head _)), List.forall_mem_cons.mpr ⟨(.head _), fun _ z => absurd z List.not_mem_nil⟩⟩⟩⟩⟩) ?_
          exact ih44 hb hwb hfb x292 x340 x341 (by omega) (by omega) (by omega)
  have B7 : ∀ (n7 : Nat) (hb : List tC) (hwb : WT N pk τ hb) (hfb : Fr PM τ h hb) (x342 : Int32) (x343 : Int32) (lx343 : 0 ≤ x343.toInt) (ux343 : x343.toInt ≤ 0) (x344 : Int32) (lx344 : 0 ≤ x344.toInt) (ux344 : x344.toInt ≤ 12), 12 - x344.toInt < n7 → TT l D mX7_tell Q0 0 0 7 [(0, .inr (some a0)), (1, .inl a1), (2, .inl x342), (3, .inl x343), (4, .inl x344)] [] hb := by
    intro n7
    induction n7 with
    | zero =>
      intro hb hwb hfb x342 x343 lx343 ux343 x344 lx344 ux344 hn7
      exfalso
      omega
    | succ n7 ih7 =>
      intro hb hwb hfb x342 x343 lx343 ux343 x344 lx344 ux344 hn7
      have bx342 := i_ty x342
      refine tt_iload (pc := 7) dX7_tell_7 (.tail _ (.tail _ (.tail _ (.tail _ (.head _))))) ?_
      refine tw_bipush (pc := 9) dX7_tell_9 (by decide) (fun x345 ex345 => ?_)
      refine tw_icmp (tgt := 41) (pc := 11) dX7_tell_11 (by decide) (fun (c346 : x345.toInt ≤ x344.toInt) => ?_) (fun (c346 : ¬ (x345.toInt ≤ x344.toInt)) => ?_)
      · skip
        refine tw_iconst (pc := 41) dX7_tell_41 (by decide) (fun x347 ex347 => ?_)
        refine tt_istore (pc := 42) dX7_tell_42 (by decide) ?_
        show TT _ _ _ _ _ _ _ [(4, .inl x347), (0, .inr (some a0)), (1, .inl a1), (2, .inl x342), (3, .inl x343)] _ _
        refine tt_loc [(0, .inr (some a0)), (1, .inl a1), (2, .inl x342), (3, .inl x343), (4, .inl x347)] (List.forall_mem_cons.mpr ⟨(.tail _ (.head _)), List.forall_mem_cons.mpr ⟨(.tail _ (.tail _ (.head _))), List.forall_mem_cons.mpr ⟨(.tail _ (.tail _ (.tail _ (.head _)))), List.forall_mem_cons.mpr ⟨(.tail _ (.tail _ (.tail _ (.tail _ (.head _))))), List.forall_mem_cons.mpr ⟨(.head _), fun _ z => absurd z List.not_mem_nil⟩⟩⟩⟩⟩) ?_
        exact B44 9 hb hwb hfb x342 x343 x347 (by omega) (by omega) (by omega)
      · skip
        refine tt_iload_n (pc := 14) dX7_tell_14 (.tail _ (.tail _ (.head _))) ?_
        refine tt_aload_n (pc := 15) dX7_tell_15 (.head _) ?_
        refine tt_iload_n (pc := 16) dX7_tell_16 (.tail _ (.head _)) ?_
        refine tt_iload (pc := 17) dX7_tell_17 (.tail _ (.tail _ (.tail _ (.tail _ (.head _))))) ?_
        refine tw_callV (kc := 0) (ks := 0) (mc := 0) (ms := 0) (as := [.inl a1, .inl x344]) (st := [.inl x342]) (pc := 19) hwb ta0 (by decide) dX7_tell_19 lkX7_110 imX7_isUp seX7_isUp rfl rfl (by decide) (by decide) (Nat.le_of_ble_eq_true rfl) (g_X7_isUp hN2 hN8 hp0 hp64 hwb a0 ta0 a1 x344 (by omega) (by omega)) (fun rv h348 qh348 => ?_)
        obtain ⟨rfl, x349, rfl, lx349, ux349⟩ := qh348
        show TT _ _ _ _ _ _ _ _ [.inl x349, .inl x342] _
        refine tw_if (tgt := 32) (pc := 22) dX7_tell_22 (by decide) (fun (c350 : x349.toInt = 0) => ?_) (fun (c350 : ¬ (x349.toInt = 0)) => ?_)
        · skip
          refine tw_iconst (pc := 32) dX7_tell_32 (by decide) (fun x351 ex351 => ?_)
          refine tt_ior (pc := 33) dX7_tell_33 ?_
          refine tw_any (fun x352 => ?_)
          have bx352 := i_ty x352
          refine tt_istore_n (pc := 34) dX7_tell_34 (by decide) ?_
          show TT _ _ _ _ _ _ _ [(2, .inl x352), (0, .inr (some a0)), (1, .inl a1), (3, .inl x343), (4, .inl x344)] _ _
          refine tw_iinc (pc := 35) dX7_tell_35 (.tail _ (.tail _ (.tail _ (.tail _ (.head _))))) (by decide) (by decide) (by omega) (fun x353 ex353 => ?_)
          show TT _ _ _ _ _ _ _ [(4, .inl x353), (2, .inl x352), (0, .inr (some a0)), (1, .inl a1), (3, .inl x343)] _ _
          refine tt_goto (tgt := 7) (pc := 38) dX7_tell_38 (by decide) ?_
          refine tt_loc [(0, .inr (some a0)), (1, .inl a1), (2, .inl x352), (3, .inl x343), (4, .inl x353)] (List.forall_mem_cons.mpr ⟨(.tail _ (.tail _ (.head _))), List.forall_mem_cons.mpr ⟨(.tail _ (.tail _ (.tail _ (.head _)))), List.forall_mem_cons.mpr ⟨(.tail _ (.head _)), List.forall_mem_cons.mpr ⟨(.tail _ (.tail _ (.tail _ (.tail _ (.head _))))), List.forall_mem_cons.mpr ⟨(.head _), fun _ z => absurd z List.not_mem_nil⟩⟩⟩⟩⟩) ?_
          exact ih7 hb hwb hfb x352 x343 (by omega) (by omega) x353 (by omega) (by omega) (by omega)
        · skip
          refine tw_iconst (pc := 25) dX7_tell_25 (by decide) (fun x354 ex354 => ?_)
          refine tt_iload (pc := 26) dX7_tell_26 (.tail _ (.tail _ (.tail _ (.tail _ (.head _))))) ?_
          refine tt_ishl (pc := 28) dX7_tell_28 ?_
          refine tw_any (fun x355 => ?_)
          have bx355 := i_ty x355
          refine tt_goto (tgt := 33) (pc := 29) dX7_tell_29 (by decide) ?_
          refine tt_ior (pc := 33) dX7_tell_33 ?_
          refine tw_any (fun x356 => ?_)
          have bx356 := i_ty x356
          refine tt_istore_n (pc := 34) dX7_tell_34 (by decide) ?_
          show TT _ _ _ _ _ _ _ [(2, .inl x356), (0, .inr (some a0)), (1, .inl a1), (3, .inl x343), (4, .inl x344)] _ _
          refine tw_iinc (pc := 35) dX7_tell_35 (.tail _ (.tail _ (.tail _ (.tail _ (.head _))))) (by decide) (by decide) (by omega) (fun x357 ex357 => ?_)
          show TT _ _ _ _ _ _ _ [(4, .inl x357), (2, .inl x356), (0, .inr (some a0)), (1, .inl a1), (3, .inl x343)] _ _
          refine tt_goto (tgt := 7) (pc := 38) dX7_tell_38 (by decide) ?_
          refine tt_loc [(0, .inr (some a0)), (1, .inl a1), (2, .inl x356), (3, .inl x343), (4, .inl x357)] (List.forall_mem_cons.mpr ⟨(.tail _ (.tail _ (.head _))), List.forall_mem_cons.mpr ⟨(.tail _ (.tail _ (.tail _ (.head _)))), List.forall_mem_cons.mpr ⟨(.tail _ (.head _)), List.forall_mem_cons.mpr ⟨(.tail _ (.tail _ (.tail _ (.tail _ (.head _))))), List.forall_mem_cons.mpr ⟨(.head _), fun _ z => absurd z List.not_mem_nil⟩⟩⟩⟩⟩) ?_
          exact ih7 hb hwb hfb x356 x343 (by omega) (by omega) x357 (by omega) (by omega) (by omega)
  refine tw_iconst (pc := 0) dX7_tell_0 (by decide) (fun x358 ex358 => ?_)
  refine tt_istore_n (pc := 1) dX7_tell_1 (by decide) ?_
  show TT _ _ _ _ _ _ _ [(2, .inl x358), (0, .inr (some a0)), (1, .inl a1)] _ _
  refine tw_iconst (pc := 2) dX7_tell_2 (by decide) (fun x359 ex359 => ?_)
  refine tt_istore_n (pc := 3) dX7_tell_3 (by decide) ?_
  show TT _ _ _ _ _ _ _ [(3, .inl x359), (2, .inl x358), (0, .inr (some a0)), (1, .inl a1)] _ _
  refine tw_iconst (pc := 4) dX7_tell_4 (by decide) (fun x360 ex360 => ?_)
  refine tt_istore (pc := 5) dX7_tell_5 (by decide) ?_
  show TT _ _ _ _ _ _ _ [(4, .inl x360), (3, .inl x359), (2, .inl x358), (0, .inr (some a0)), (1, .inl a1)] _ _
  refine tt_loc [(0, .inr (some a0)), (1, .inl a1), (2, .inl x358), (3, .inl x359), (4, .inl x360)] (List.forall_mem_cons.mpr ⟨(.tail _ (.tail _ (.tail _ (.head _)))), List.forall_mem_cons.mpr ⟨(.tail _ (.tail _ (.tail _ (.tail _ (.head _))))), List.forall_mem_cons.mpr ⟨(.tail _ (.tail _ (.head _))), List.forall_mem_cons.mpr ⟨(.tail _ (.head _)), List.forall_mem_cons.mpr ⟨(.head _), fun _ z => absurd z List.not_mem_nil⟩⟩⟩⟩⟩) ?_
  exact B7 13 h hw hf x358 x359 (by omega) (by omega) x360 (by omega) (by omega) (by omega)
abbrev mX7_withdraw : tM := (RX7, cX7_withdraw, 4, 3, 81, false)
set_option maxHeartbeats 4000000 in
theorem g_X7_withdraw {l : Launch} {D : va_G} {N : Nat} {pk : Int} {τ : List Nat} (hN2 : 2 ≤ N) (hN8 : N ≤ 8) (hp0 : 0 ≤ pk) (hp64 : pk ≤ 64) {h : List tC} (hw : WT N pk τ h) (a0 : Nat) (ta0 : τ[a0]? = some 7) (a1 : Int32) (la1 : 0 ≤ a1.toInt) (ua1 : a1.toInt ≤ 7) (a2 : Int32) (la2 : 0 ≤ a2.toInt) (ua2 : a2.toInt ≤ 7) : TMc l D yX7_withdraw cX7_withdraw 4 none 3 81 0 0 [.inr (some a0), .inl a1, .inl a2] h (fun rv h' => WT N pk τ h' ∧ Fr PMk τ h h' ∧ rv = none) := by
  refine tmc_of false rfl (by decide) (Nat.le_of_ble_eq_true rfl) ?_
  suffices HQ : ∀ Q0, Q0 = tRt cX7_withdraw none (fun rv h' => WT N pk τ h' ∧ Fr PMk τ h h' ∧ rv = none) → TT l D mX7_withdraw Q0 0 0 0 [(0, .inr (some a0)), (1, .inl a1), (2, .inl a2)] [] h from HQ _ rfl
  intro Q0 hQ
  have hf : Fr PMk τ h h := Fr.rf
  have B49 : ∀ (hb : List tC) (hwb : WT N pk τ hb) (hfb : Fr PMk τ h hb), TT l D mX7_withdraw Q0 0 0 49 [] [] hb := by
    intro hb hwb hfb
    refine tt_stop ?_
    rw [hQ]
    exact Or.inl ⟨dX7_withdraw_49, rfl, rfl, hwb, hfb, rfl⟩
  refine tt_aload_n (pc := 0) dX7_withdraw_0 (.head _) ?_
  refine tw_getr (pc := 1) dX7_withdraw_1 flX7_62 hw ta0 (by decide) rfl (fun f23 q24 ef23 gf23 tq24 => ?_)
  refine tw_bipush (pc := 4) dX7_withdraw_4 (by decide) (fun x25 ex25 => ?_)
  refine tt_iload_n (pc := 6) dX7_withdraw_6 (.tail _ (.head _)) ?_
  refine tw_imul (c := 8) (pc := 7) dX7_withdraw_7 (by omega) (by omega) (fun x26 ex26 => ?_)
  refine tt_iload_n (pc := 8) dX7_withdraw_8 (.tail _ (.tail _ (.head _))) ?_
  refine tw_iadd (pc := 9) dX7_withdraw_9 (by omega) (fun x27 ex27 => ?_)
  refine tw_ild (pc := 10) dX7_withdraw_10 hw tq24 rfl (by omega) (by omega) (fun f29 x28 ef29 gf29 lx28 ux28 => ?_)
  refine tt_istore_n (pc := 11) dX7_withdraw_11 (by decide) ?_
  show TT _ _ _ _ _ _ _ [(3, .inl x28), (0, .inr (some a0)), (1, .inl a1), (2, .inl a2)] _ _
  refine tt_aload_n (pc := 12) dX7_withdraw_12 (.tail _ (.head _)) ?_
  refine tt_get (pc := 13) dX7_withdraw_13 flX7_62 ef23 gf23 ?_
  refine tw_bipush (pc := 16) dX7_withdraw_16 (by decide) (fun x30 ex30 => ?_)
  refine tt_iload_n (pc := 18) dX7_withdraw_18 (.tail _ (.tail _ (.head _))) ?_
  refine tw_imul (c := 8) (pc := 19) dX7_withdraw_19 (by omega) (by omega) (fun x31 ex31 => ?_)
  refine tt_iload_n (pc := 20) dX7_withdraw_20 (.tail _ (.tail _ (.tail _ (.head _)))) ?_
  refine tw_iadd (pc := 21) dX7_withdraw_21 (by omega) (fun x32 ex32 => ?_)
  refine tw_iconst (pc := 22) dX7_withdraw_22 (by decide) (fun x33 ex33 => ?_)
  refine tw_ist (P := PMk) (pc := 23) dX7_withdraw_23 hw tq24 rfl (by omega) (by omega) (by omega) (by omega) (by decide) (fun f34 h35 eh35 gh35 kh35 wh35 fh35 => ?_)
  have hfh35 := hf.tr fh35
  refine tt_aload_n (pc := 24) dX7_withdraw_24 (.tail _ (.head _)) ?_
  refine tt_iload_n (pc := 25) dX7_withdraw_25 (.tail _ (.tail _ (.head _))) ?_
  refine tw_iconst (pc := 26) dX7_withdraw_26 (by decide) (fun x36 ex36 => ?_)
  refine tw_iconst (pc := 27) dX7_withdraw_27 (by decide) (fun x37 ex37 => ?_)
  refine tt_iload_n (pc := 28) dX7_withdraw_28 (.tail _ (.tail _ (.tail _ (.head _)))) ?_
  refine tt_iload_n (pc := 29) dX7_withdraw_29 (.head _) ?_
  refine tw_iconst (pc := 30) dX7_withdraw_30 (by decide) (fun x38 ex38 => ?_)
  refine tw_callV (kc := 0) (ks := 0) (mc := 0) (ms := 0) (as := [.inl a1, .inl x36, .inl x37, .inl a2, .inl x28, .inl x38]) (st := []) (pc := 31) wh35 ta0 (by decide) dX7_withdraw_31 lkX7_121 imX7_sendAll seX7_sendAll rfl rfl (by decide) (by decide) (Nat.le_of_ble_eq_true rfl) (g_X7_sendAllB hN2 hN8 hp0 hp64 wh35 a0 ta0 a1 (by omega) (by omega) x36 x37 (by omega) (by omega) a2 (by omega) (by omega) x28 (by omega) (by omega) x38) (fun rv h39 qh39 => ?_)
  obtain ⟨wh39, fh39, rfl⟩ := qh39
  have hfh39 := hfh35.tr fh39
  show TT _ _ _ _ _ _ _ _ [] _
  refine tt_iload_n (pc := 34) dX7_withdraw_34 (.head _) ?_
  refine tw_bipush (pc := 35) dX7_withdraw_35 (by decide) (fun x40 ex40 => ?_)
  refine tw_icmp (tgt := 49) (pc := 37) dX7_withdraw_37 (by decide) (fun (c41 : x28.toInt < x40.toInt) => ?_) (fun (c41 : ¬ (x28.toInt < x40.toInt)) => ?_)
  · skip
    refine tt_loc [] (fun _ z => absurd z List.not_mem_nil) ?_
    exact B49 h39 wh39 hfh39
  · skip
    refine tt_aload_n (pc := 40) dX7_withdraw_40 (.tail _ (.head _)) ?_
    refine tt_iload_n (pc := 41) dX7_withdraw_41 (.tail _ (.tail _ (.head _))) ?_
    refine tt_iload_n (pc := 42) dX7_withdraw_42 (.head _) ?_
    refine tw_bipush (pc := 43) dX7_withdraw_43 (by decide) (fun x42 ex42 => ?_)
    refine tw_isub (pc := 45) dX7_withdraw_45 (by omega) (fun x43 ex43 => ?_)
    refine tw_callV (kc := 0) (ks := 0) (mc := 0) (ms := 0) (as := [.inl a1, .inl x43]) (st := []) (pc := 46) wh39 ta0 (by decide) dX7_withdraw_46 lkX7_135 imX7_settle seX7_settle rfl rfl (by decide) (by decide) (Nat.le_of_ble_eq_true rfl) (g_X7_settle hN2 hN8 hp0 hp64 wh39 a0 ta0 a1 (by omega) (by omega) x43 (by omega) (by omega)) (fun rv h44 qh44 => ?_)
    obtain ⟨wh44, fh44, rfl⟩ := qh44
    have hfh44 := hfh39.tr fh44
    show TT _ _ _ _ _ _ _ _ [] _
    refine tt_loc [] (fun _ z => absurd z List.not_mem_nil) ?_
    exact B49 h44 wh44 hfh44
abbrev mX7_become : tM := (RX7, cX7_become, 5, 3, 81, false)
set_option maxHeartbeats 4000000 in
theorem g_X7_become {l : Launch} {D : va_G} {N : Nat} {pk : Int} {τ : List Nat} (hN2 : 2 ≤ N) (hN8 : N ≤ 8) (hp0 : 0 ≤ pk) (hp64 : pk ≤ 64) {h : List tC} (hw : WT N pk τ h) (a0 : Nat) (ta0 : τ[a0]? = some 7) (a1 : Int32) (la1 : 0 ≤ a1.toInt) (ua1 : a1.toInt ≤ 7) (a2 : Int32) (la2 : 0 ≤ a2.toInt) (ua2 : a2.toInt ≤ 7) (a3 : Int32) (la3 : -1 ≤ a3.toInt) (ua3 : a3.toInt ≤ 79) (a4 : Int32) : TMc l D yX7_become cX7_become 5 none 3 81 0 0 [.inr (some a0), .inl a1, .inl a2, .inl a3, .inl a4] h (fun rv h' => WT N pk τ h' ∧ Fr PMk τ h h' ∧ rv = none) := by
  refine tmc_of false rfl (by decide) (Nat.le_of_ble_eq_true rfl) ?_
  suffices HQ : ∀ Q0, Q0 = tRt cX7_become none (fun rv h' => WT N pk τ h' ∧ Fr PMk τ h h' ∧ rv = none) → TT l D mX7_become Q0 0 0 0 [(0, .inr (some a0)), (1, .inl a1), (2, .inl a2), (3, .inl a3), (4, .inl a4)] [] h from HQ _ rfl
  intro Q0 hQ
  have hf : Fr PMk τ h h := Fr.rf
  have ba4 := i_ty a4
  refine tt_aload_n (pc := 0) dX7_become_0 (.head _) ?_
  refine tw_getr (pc := 1) dX7_become_1 flX7_62 hw ta0 (by decide) rfl (fun f18 q19 ef18 gf18 tq19 => ?_)
  refine tw_bipush (pc := 4) dX7_become_4 (by decide) (fun x20 ex20 => ?_)
  refine tt_iload_n (pc := 6) dX7_become_6 (.tail _ (.head _)) ?_
  refine tw_imul (c := 8) (pc := 7) dX7_become_7 (by omega) (by omega) (fun x21 ex21 => ?_)
  refine tt_iload_n (pc := 8) dX7_become_8 (.tail _ (.tail _ (.head _))) ?_
  refine tw_iadd (pc := 9) dX7_become_9 (by omega) (fun x22 ex22 => ?_)
  refine tt_iload_n (pc := 10) dX7_become_10 (.tail _ (.tail _ (.tail _ (.head _)))) ?_
  refine tw_ist (P := PMk) (pc := 11) dX7_become_11 hw tq19 rfl (by omega) (by omega) (by omega) (by omega) (by decide) (fun f23 h24 eh24 gh24 kh24 wh24 fh24 => ?_)
  have hfh24 := hf.tr fh24
  refine tt_aload_n (pc := 12) dX7_become_12 (.head _) ?_
  refine tw_getr (pc := 13) dX7_become_13 flX7_65 wh24 ta0 (by decide) rfl (fun f25 q26 ef25 gf25 tq26 => ?_)
  refine tw_bipush (pc := 16) dX7_become_16 (by decide) (fun x27 ex27 => ?_)
  refine tt_iload_n (pc := 18) dX7_become_18 (.tail _ (.head _)) ?_
  refine tw_imul (c := 8) (pc := 19) dX7_become_19 (by omega) (by omega) (fun x28 ex28 => ?_)
  refine tt_iload_n (pc := 20) dX7_become_20 (.tail _ (.tail _ (.head _))) ?_
  refine tw_iadd (pc := 21) dX7_become_21 (by omega) (fun x29 ex29 => ?_)
  refine tt_iload (pc := 22) dX7_become_22 (.tail _ (.tail _ (.tail _ (.tail _ (.head _))))) ?_
  refine tw_ist (P := PMk) (pc := 24) dX7_become_24 wh24 tq26 rfl (by omega) (by omega) (by omega) (by omega) (by decide) (fun f30 h31 eh31 gh31 kh31 wh31 fh31 => ?_)
  have hfh31 := hfh24.tr fh31
  refine tt_aload_n (pc := 25) dX7_become_25 (.head _) ?_
  refine tt_iload_n (pc := 26) dX7_become_26 (.tail _ (.head _)) ?_
  refine tw_iconst (pc := 27) dX7_become_27 (by decide) (fun x32 ex32 => ?_)
  refine tw_iconst (pc := 28) dX7_become_28 (by decide) (fun x33 ex33 => ?_)
  refine tt_iload_n (pc := 29) dX7_become_29 (.tail _ (.tail _ (.head _))) ?_
  refine tt_iload_n (pc := 30) dX7_become_30 (.tail _ (.tail _ (.tail _ (.head _)))) ?_
  refine tt_iload (pc := 31) dX7_become_31 (.tail _ (.tail _ (.tail _ (.tail _ (.head _))))) ?_
  refine tw_callV (kc := 0) (ks := 0) (mc := 0) (ms := 0) (as := [.inl a1, .inl x32, .inl x33, .inl a2, .inl a3, .inl a4]) (st := []) (pc := 33) wh31 ta0 (by decide) dX7_become_33 lkX7_121 imX7_sendAll seX7_sendAll rfl rfl (by decide) (by decide) (Nat.le_of_ble_eq_true rfl) (g_X7_sendAllB hN2 hN8 hp0 hp64 wh31 a0 ta0 a1 (by omega) (by omega) x32 x33 (by omega) (by omega) a2 (by omega) (by omega) a3 (by omega) (by omega) a4) (fun rv h34 qh34 => ?_)
  obtain ⟨wh34, fh34, rfl⟩ := qh34
  have hfh34 := hfh31.tr fh34
  show TT _ _ _ _ _ _ _ _ [] _
  refine tt_stop ?_
  rw [hQ]
  exact Or.inl ⟨dX7_become_36, rfl, rfl, wh34, hfh34, rfl⟩
abbrev mX7_checkOne : tM := (RX7, cX7_checkOne, 7, 4, 105, false)
set_option maxHeartbeats 4000000 in
theorem g_X7_checkOne {l : Launch} {D : va_G} {N : Nat} {pk : Int} {τ : List Nat} (hN2 : 2 ≤ N) (hN8 : N ≤ 8) (hp0 : 0 ≤ pk) (hp64 : pk ≤ 64) {h : List tC} (hw : WT N pk τ h) (a0 : Nat) (ta0 : τ[a0]? = some 7) (a1 : Int32) (la1 : 0 ≤ a1.toInt) (ua1 : a1.toInt ≤ 7) (a2 : Int32) (la2 : 0 ≤ a2.toInt) (ua2 : a2.toInt ≤ 7) : TMc l D yX7_checkOne cX7_checkOne 7 none 4 105 0 0 [.inr (some a0), .inl a1, .inl a2] h (fun rv h' => WT N pk τ h' ∧ Fr PMk τ h h' ∧ rv = none) := by
  refine tmc_of false rfl (by decide) (Nat.le_of_ble_eq_true rfl) ?_
  suffices HQ : ∀ Q0, Q0 = tRt cX7_checkOne none (fun rv h' => WT N pk τ h' ∧ Fr PMk τ h h' ∧ rv = none) → TT l D mX7_checkOne Q0 0 0 0 [(0, .inr (some a0)), (1, .inl a1), (2, .inl a2)] [] h from HQ _ rfl
  intro Q0 hQ
  have hf : Fr PMk τ h h := Fr.rf
  have B186 : ∀ (hb : List tC) (hwb : WT N pk τ hb) (hfb : Fr PMk τ h hb), TT l D mX7_checkOne Q0 0 0 186 [] [] hb := by
    intro hb hwb hfb
    refine tt_stop ?_
    rw [hQ]
    exact Or.inl ⟨dX7_checkOne_186, rfl, rfl, hwb, hfb, rfl⟩
  have B131 : ∀ (hb : List tC) (hwb : WT N pk τ hb) (hfb : Fr PMk τ h hb), TT l D mX7_checkOne Q0 0 0 131 [] [] hb := by
    intro hb hwb hfb
    refine tt_stop ?_
    rw [hQ]
    exact Or.inl ⟨dX7_checkOne_131, rfl, rfl, hwb, hfb, rfl⟩
  have B80 : ∀ (hb : List tC) (hwb : WT N pk τ hb) (hfb : Fr PMk τ h hb) (x78 : Int32) (lx78 : -1 ≤ x78.toInt) (ux78 : x78.toInt ≤ 79) (x79 : Int32) (lx79 : -1 ≤ x79.toInt) (ux79 : x79.toInt ≤ 767), TT l D mX7_checkOne Q0 0 0 80 [(0, .inr (some a0)), (1, .inl a1), (2, .inl a2), (3, .inl x78), (4, .inl x79)] [] hb := by
    intro hb hwb hfb x78 lx78 ux78 x79 lx79 ux79
    refine tt_iload (pc := 80) dX7_checkOne_80 (.tail _ (.tail _ (.tail _ (.tail _ (.head _))))) ?_
    refine tw_iconst (pc := 82) dX7_checkOne_82 (by decide) (fun x80 ex80 => ?_)
    refine tw_icmp (tgt := 87) (pc := 83) dX7_checkOne_83 (by decide) (fun (c81 : x79.toInt ≠ x80.toInt) => ?_) (fun (c81 : ¬ (x79.toInt ≠ x80.toInt)) => ?_)
    · skip
      refine tt_aload_n (pc := 87) dX7_checkOne_87 (.head _) ?_
      refine tw_getr (pc := 88) dX7_checkOne_88 flX7_59 hwb ta0 (by decide) rfl (fun f82 q83 ef82 gf82 tq83 => ?_)
      refine tt_iload (pc := 91) dX7_checkOne_91 (.tail _ (.tail _ (.tail _ (.tail _ (.head _))))) ?_
      refine tw_ild (pc := 93) dX7_checkOne_93 hwb tq83 rfl (by omega) (by omega) (fun f85 x84 ef85 gf85 lx84 ux84 => ?_)
      refine tw_iconst (pc := 94) dX7_checkOne_94 (by decide) (fun x86 ex86 => ?_)
      refine tt_iload_n (pc := 95) dX7_checkOne_95 (.tail _ (.head _)) ?_
      refine tt_ishl (pc := 96) dX7_checkOne_96 ?_
      refine tw_any (fun x87 => ?_)
      have bx87 := i_ty x87
      refine tt_ior (pc := 97) dX7_checkOne_97 ?_
      refine tw_any (fun x88 => ?_)
      have bx88 := i_ty x88
      refine tt_istore (pc := 98) dX7_checkOne_98 (by decide) ?_
      show TT _ _ _ _ _ _ _ [(5, .inl x88), (0, .inr (some a0)), (1, .inl a1), (2, .inl a2), (3, .inl x78), (4, .inl x79)] _ _
      refine tt_iload_n (pc := 100) dX7_checkOne_100 (.tail _ (.tail _ (.tail _ (.tail _ (.head _))))) ?_
      refine tw_bipush (pc := 101) dX7_checkOne_101 (by decide) (fun x89 ex89 => ?_)
      refine tw_icmp (tgt := 132) (pc := 103) dX7_checkOne_103 (by decide) (fun (c90 : x78.toInt < x89.toInt) => ?_) (fun (c90 : ¬ (x78.toInt < x89.toInt)) => ?_)
      · skip
        refine tt_aload_n (pc := 132) dX7_checkOne_132 (.tail _ (.head _)) ?_
        refine tt_iload_n (pc := 133) dX7_checkOne_133 (.tail _ (.tail _ (.head _))) ?_
        refine tw_callV (kc := 0) (ks := 0) (mc := 0) (ms := 0) (as := [.inl a1]) (st := []) (pc := 134) hwb ta0 (by decide) dX7_checkOne_134 lkX7_159 imX7_free seX7_free rfl rfl (by decide) (by decide) (Nat.le_of_ble_eq_true rfl) (g_X7_free hN2 hN8 hp0 hp64 hwb a0 ta0 a1 (by omega) (by omega)) (fun rv h91 qh91 => ?_)
        obtain ⟨rfl, x92, rfl, lx92, ux92⟩ := qh91
        show TT _ _ _ _ _ _ _ _ [.inl x92] _
        refine tt_istore (pc := 137) dX7_checkOne_137 (by decide) ?_
        show TT _ _ _ _ _ _ _ [(6, .inl x92), (5, .inl x88), (0, .inr (some a0)), (1, .inl a1), (2, .inl a2), (3, .inl x78), (4, .inl x79)] _ _
        refine tt_iload (pc := 139) dX7_checkOne_139 (.head _) ?_
        refine tw_iconst (pc := 141) dX7_checkOne_141 (by decide) (fun x93 ex93 => ?_)
        refine tw_icmp (tgt := 186) (pc := 142) dX7_checkOne_142 (by decide) (fun (c94 : x92.toInt = x93.toInt) => ?_) (fun (c94 : ¬ (x92.toInt = x93.toInt)) => ?_)
        · skip
          refine tt_loc [] (fun _ z => absurd z List.not_mem_nil) ?_
          exact B186 hb hwb hfb
        · skip
          refine tt_aload_n (pc := 145) dX7_checkOne_145 (.tail _ (.tail _ (.head _))) ?_
          refine tw_getr (pc := 146) dX7_checkOne_146 flX7_68 hwb ta0 (by decide) rfl (fun f95 q96 ef95 gf95 tq96 => ?_)
          refine tw_bipush (pc := 149) dX7_checkOne_149 (by decide) (fun x97 ex97 => ?_)
          refine tt_iload_n (pc := 151) dX7_checkOne_151 (.tail _ (.tail _ (.tail _ (.head _)))) ?_
          refine tw_imul (c := 64) (pc := 152) dX7_checkOne_152 (by omega) (by omega) (fun x98 ex98 => ?_)
          refine tt_iload (pc := 153) dX7_checkOne_153 (.head _) ?_
          refine tw_iadd (pc := 155) dX7_checkOne_155 (by omega) (fun x99 ex99 => ?_)
          refine tt_iload_n (pc := 156) dX7_checkOne_156 (.tail _ (.tail _ (.tail _ (.tail _ (.head _))))) ?_
          refine tw_iconst (pc := 157) dX7_checkOne_157 (by decide) (fun x100 ex100 => ?_)
          refine tw_iadd (pc := 158) dX7_checkOne_158 (by omega) (fun x101 ex101 => ?_)
          refine tw_ist (P := PMk) (pc := 159) dX7_checkOne_159 hwb tq96 rfl (by omega) (by omega) (by omega) (by omega) (by decide) (fun f102 h103 eh103 gh103 kh103 wh103 fh103 => ?_)
          have hfh103 := hfb.tr fh103
          refine tt_aload_n (pc := 160) dX7_checkOne_160 (.tail _ (.tail _ (.head _))) ?_
          refine tw_getr (pc := 161) dX7_checkOne_161 flX7_71 wh103 ta0 (by decide) rfl (fun f104 q105 ef104 gf104 tq105 => ?_)
          refine tw_bipush (pc := 164) dX7_checkOne_164 (by decide) (fun x106 ex106 => ?_)
          refine tt_iload_n (pc := 166) dX7_checkOne_166 (.tail _ (.tail _ (.tail _ (.head _)))) ?_
          refine tw_imul (c := 64) (pc := 167) dX7_checkOne_167 (by omega) (by omega) (fun x107 ex107 => ?_)
          refine tt_iload (pc := 168) dX7_checkOne_168 (.head _) ?_
          refine tw_iadd (pc := 170) dX7_checkOne_170 (by omega) (fun x108 ex108 => ?_)
          refine tw_iconst (pc := 171) dX7_checkOne_171 (by decide) (fun x109 ex109 => ?_)
          refine tw_ist (P := PMk) (pc := 172) dX7_checkOne_172 wh103 tq105 rfl (by omega) (by omega) (by omega) (by omega) (by decide) (fun f110 h111 eh111 gh111 kh111 wh111 fh111 => ?_)
          have hfh111 := hfh103.tr fh111
          refine tt_aload_n (pc := 173) dX7_checkOne_173 (.tail _ (.tail _ (.head _))) ?_
          refine tt_iload_n (pc := 174) dX7_checkOne_174 (.tail _ (.tail _ (.tail _ (.head _)))) ?_
          refine tt_iload_n (pc := 175) dX7_checkOne_175 (.tail _ (.tail _ (.tail _ (.tail _ (.head _))))) ?_
          refine tw_bipush (pc := 176) dX7_checkOne_176 (by decide) (fun x112 ex112 => ?_)
          refine tt_iload (pc := 178) dX7_checkOne_178 (.head _) ?_
          refine tw_iadd (pc := 180) dX7_checkOne_180 (by omega) (fun x113 ex113 => ?_)
          refine tt_iload (pc := 181) dX7_checkOne_181 (.tail _ (.head _)) ?_
          refine tw_callV (kc := 0) (ks := 0) (mc := 0) (ms := 0) (as := [.inl a1, .inl a2, .inl x113, .inl x88]) (st := []) (pc := 183) wh111 ta0 (by decide) dX7_checkOne_183 lkX7_155 imX7_become seX7_become rfl rfl (by decide) (by decide) (Nat.le_of_ble_eq_true rfl) (g_X7_become hN2 hN8 hp0 hp64 wh111 a0 ta0 a1 (by omega) (by omega) a2 (by omega) (by omega) x113 (by omega) (by omega) x88) (fun rv h114 qh114 => ?_)
          obtain ⟨wh114, fh114, rfl⟩ := qh114
          have hfh114 := hfh111.tr fh114
          show TT _ _ _ _ _ _ _ _ [] _
          refine tt_loc [] (fun _ z => absurd z List.not_mem_nil) ?_
          exact B186 h114 wh114 hfh114
      · skip
        refine tt_aload_n (pc := 106) dX7_checkOne_106 (.tail _ (.head _)) ?_
        refine tw_getr (pc := 107) dX7_checkOne_107 flX7_65 hwb ta0 (by decide) rfl (fun f115 q116 ef115 gf115 tq116 => ?_)
        refine tw_bipush (pc := 110) dX7_checkOne_110 (by decide) (fun x117 ex117 => ?_)
        refine tt_iload_n (pc := 112) dX7_checkOne_112 (.tail _ (.tail _ (.head _))) ?_
        refine tw_imul (c := 8) (pc := 113) dX7_checkOne_113 (by omega) (by omega) (fun x118 ex118 => ?_)
        refine tt_iload_n (pc := 114) dX7_checkOne_114 (.tail _ (.tail _ (.tail _ (.head _)))) ?_
        refine tw_iadd (pc := 115) dX7_checkOne_115 (by omega) (fun x119 ex119 => ?_)
        refine tw_ild (pc := 116) dX7_checkOne_116 hwb tq116 rfl (by omega) (by omega) (fun f121 x120 ef121 gf121 lx120 ux120 => ?_)
        refine tt_iload (pc := 117) dX7_checkOne_117 (.head _) ?_
        refine tw_icmp (tgt := 131) (pc := 119) dX7_checkOne_119 (by decide) (fun (c122 : x120.toInt = x88.toInt) => ?_) (fun (c122 : ¬ (x120.toInt = x88.toInt)) => ?_)
        · skip
          refine tt_loc [] (fun _ z => absurd z List.not_mem_nil) ?_
          exact B131 hb hwb hfb
        · skip
          refine tt_aload_n (pc := 122) dX7_checkOne_122 (.tail _ (.head _)) ?_
          refine tt_iload_n (pc := 123) dX7_checkOne_123 (.tail _ (.tail _ (.head _))) ?_
          refine tt_iload_n (pc := 124) dX7_checkOne_124 (.tail _ (.tail _ (.tail _ (.head _)))) ?_
          refine tt_iload_n (pc := 125) dX7_checkOne_125 (.tail _ (.tail _ (.tail _ (.tail _ (.head _))))) ?_
          refine tt_iload (pc := 126) dX7_checkOne_126 (.head _) ?_
          refine tw_callV (kc := 0) (ks := 0) (mc := 0) (ms := 0) (as := [.inl a1, .inl a2, .inl x78, .inl x88]) (st := []) (pc := 128) hwb ta0 (by decide) dX7_checkOne_128 lkX7_155 imX7_become seX7_become rfl rfl (by decide) (by decide) (Nat.le_of_ble_eq_true rfl) (g_X7_become hN2 hN8 hp0 hp64 hwb a0 ta0 a1 (by omega) (by omega) a2 (by omega) (by omega) x78 (by omega) (by omega) x88) (fun rv h123 qh123 => ?_)
          obtain ⟨wh123, fh123, rfl⟩ := qh123
          have hfh123 := hfb.tr fh123
          show TT _ _ _ _ _ _ _ _ [] _
          refine tt_loc [] (fun _ z => absurd z List.not_mem_nil) ?_
          exact B131 h123 wh123 hfh123
    · skip
      refine tt_stop ?_
      rw [hQ]
      exact Or.inl ⟨dX7_checkOne_86, rfl, rfl, hwb, hfb, rfl⟩
  have B74 : ∀ (hb : List tC) (hwb : WT N pk τ hb) (hfb : Fr PMk τ h hb) (x124 : Int32) (lx124 : 0 ≤ x124.toInt) (ux124 : x124.toInt ≤ 79) (x125 : Int32) (lx125 : -1 ≤ x125.toInt) (ux125 : x125.toInt ≤ 767), TT l D mX7_checkOne Q0 0 0 74 [(0, .inr (some a0)), (1, .inl a1), (2, .inl a2), (3, .inl x124), (4, .inl x125)] [] hb := by
    intro hb hwb hfb x124 lx124 ux124 x125 lx125 ux125
    refine tt_aload_n (pc := 74) dX7_checkOne_74 (.head _) ?_
    refine tt_iload_n (pc := 75) dX7_checkOne_75 (.tail _ (.head _)) ?_
    refine tt_iload_n (pc := 76) dX7_checkOne_76 (.tail _ (.tail _ (.head _))) ?_
    refine tw_callV (kc := 0) (ks := 0) (mc := 0) (ms := 0) (as := [.inl a1, .inl a2]) (st := []) (pc := 77) hwb ta0 (by decide) dX7_checkOne_77 lkX7_152 imX7_withdraw seX7_withdraw rfl rfl (by decide) (by decide) (Nat.le_of_ble_eq_true rfl) (g_X7_withdraw hN2 hN8 hp0 hp64 hwb a0 ta0 a1 (by omega) (by omega) a2 (by omega) (by omega)) (fun rv h126 qh126 => ?_)
    obtain ⟨wh126, fh126, rfl⟩ := qh126
    have hfh126 := hfb.tr fh126
    show TT _ _ _ _ _ _ _ _ [] _
    refine tt_loc [(0, .inr (some a0)), (1, .inl a1), (2, .inl a2), (3, .inl x124), (4, .inl x125)] (List.forall_mem_cons.mpr ⟨(.head _), List.forall_mem_cons.mpr ⟨(.tail _ (.head _)), List.forall_mem_cons.mpr ⟨(.tail _ (.tail _ (.head _))), List.forall_mem_cons.mpr ⟨(.tail _ (.tail _ (.tail _ (.head _)))), List.forall_mem_cons.mpr ⟨(.tail _ (.tail _ (.tail _ (.tail _ (.head _))))), fun _ z => absurd z List.not_mem_nil⟩⟩⟩⟩⟩) ?_
    exact B80 h126 wh126 hfh126 x124 (by omega) (by omega) x125 (by omega) (by omega)
  have B57 : ∀ (hb : List tC) (hwb : WT N pk τ hb) (hfb : Fr PMk τ h hb), TT l D mX7_checkOne Q0 0 0 57 [] [] hb := by
    intro hb hwb hfb
    refine tt_stop ?_
    rw [hQ]
    exact Or.inl ⟨dX7_checkOne_57, rfl, rfl, hwb, hfb, rfl⟩
  have B42 : ∀ (hb : List tC) (hwb : WT N pk τ hb) (hfb : Fr PMk τ h hb) (x127 : Int32) (lx127 : -1 ≤ x127.toInt) (ux127 : x127.toInt ≤ 79), TT l D mX7_checkOne Q0 0 0 42 [(0, .inr (some a0)), (1, .inl a1), (2, .inl a2), (3, .inl x127)] [] hb := by
    intro hb hwb hfb x127 lx127 ux127
    refine tt_iload_n (pc := 42) dX7_checkOne_42 (.tail _ (.tail _ (.tail _ (.head _)))) ?_
    refine tw_iconst (pc := 43) dX7_checkOne_43 (by decide) (fun x128 ex128 => ?_)
    refine tw_icmp (tgt := 57) (pc := 44) dX7_checkOne_44 (by decide) (fun (c129 : x127.toInt = x128.toInt) => ?_) (fun (c129 : ¬ (x127.toInt = x128.toInt)) => ?_)
    · skip
      refine tt_loc [] (fun _ z => absurd z List.not_mem_nil) ?_
      exact B57 hb hwb hfb
    · skip
      refine tt_aload_n (pc := 47) dX7_checkOne_47 (.head _) ?_
      refine tt_iload_n (pc := 48) dX7_checkOne_48 (.tail _ (.head _)) ?_
      refine tt_iload_n (pc := 49) dX7_checkOne_49 (.tail _ (.tail _ (.head _))) ?_
      refine tw_iconst (pc := 50) dX7_checkOne_50 (by decide) (fun x130 ex130 => ?_)
      refine tw_iconst (pc := 51) dX7_checkOne_51 (by decide) (fun x131 ex131 => ?_)
      refine tt_iload_n (pc := 52) dX7_checkOne_52 (.tail _ (.head _)) ?_
      refine tt_ishl (pc := 53) dX7_checkOne_53 ?_
      refine tw_any (fun x132 => ?_)
      have bx132 := i_ty x132
      refine tw_callV (kc := 0) (ks := 0) (mc := 0) (ms := 0) (as := [.inl a1, .inl a2, .inl x130, .inl x132]) (st := []) (pc := 54) hwb ta0 (by decide) dX7_checkOne_54 lkX7_155 imX7_become seX7_become rfl rfl (by decide) (by decide) (Nat.le_of_ble_eq_true rfl) (g_X7_become hN2 hN8 hp0 hp64 hwb a0 ta0 a1 (by omega) (by omega) a2 (by omega) (by omega) x130 (by omega) (by omega) x132) (fun rv h133 qh133 => ?_)
      obtain ⟨wh133, fh133, rfl⟩ := qh133
      have hfh133 := hfb.tr fh133
      show TT _ _ _ _ _ _ _ _ [] _
      refine tt_loc [] (fun _ z => absurd z List.not_mem_nil) ?_
      exact B57 h133 wh133 hfh133
  refine tt_aload_n (pc := 0) dX7_checkOne_0 (.head _) ?_
  refine tw_getr (pc := 1) dX7_checkOne_1 flX7_62 hw ta0 (by decide) rfl (fun f134 q135 ef134 gf134 tq135 => ?_)
  refine tw_bipush (pc := 4) dX7_checkOne_4 (by decide) (fun x136 ex136 => ?_)
  refine tt_iload_n (pc := 6) dX7_checkOne_6 (.tail _ (.head _)) ?_
  refine tw_imul (c := 8) (pc := 7) dX7_checkOne_7 (by omega) (by omega) (fun x137 ex137 => ?_)
  refine tt_iload_n (pc := 8) dX7_checkOne_8 (.tail _ (.tail _ (.head _))) ?_
  refine tw_iadd (pc := 9) dX7_checkOne_9 (by omega) (fun x138 ex138 => ?_)
  refine tw_ild (pc := 10) dX7_checkOne_10 hw tq135 rfl (by omega) (by omega) (fun f140 x139 ef140 gf140 lx139 ux139 => ?_)
  refine tt_istore_n (pc := 11) dX7_checkOne_11 (by decide) ?_
  show TT _ _ _ _ _ _ _ [(3, .inl x139), (0, .inr (some a0)), (1, .inl a1), (2, .inl a2)] _ _
  refine tt_aload_n (pc := 12) dX7_checkOne_12 (.tail _ (.head _)) ?_
  refine tt_iload_n (pc := 13) dX7_checkOne_13 (.tail _ (.tail _ (.head _))) ?_
  refine tt_iload_n (pc := 14) dX7_checkOne_14 (.tail _ (.tail _ (.tail _ (.head _)))) ?_
  refine tw_callV (kc := 0) (ks := 0) (mc := 0) (ms := 0) (as := [.inl a1, .inl a2]) (st := []) (pc := 15) hw ta0 (by decide) dX7_checkOne_15 lkX7_149 imX7_byHop seX7_byHop rfl rfl (by decide) (by decide) (Nat.le_of_ble_eq_true rfl) (g_X7_byHop hN2 hN8 hp0 hp64 hw a0 ta0 a1 (by omega) (by omega) a2 (by omega) (by omega)) (fun rv h141 qh141 => ?_)
  obtain ⟨rfl, x142, rfl, lx142, ux142⟩ := qh141
  show TT _ _ _ _ _ _ _ _ [.inl x142] _
  refine tt_istore (pc := 18) dX7_checkOne_18 (by decide) ?_
  show TT _ _ _ _ _ _ _ [(4, .inl x142), (3, .inl x139), (0, .inr (some a0)), (1, .inl a1), (2, .inl a2)] _ _
  refine tt_aload_n (pc := 20) dX7_checkOne_20 (.tail _ (.tail _ (.head _))) ?_
  refine tt_iload_n (pc := 21) dX7_checkOne_21 (.tail _ (.tail _ (.tail _ (.head _)))) ?_
  refine tt_iload_n (pc := 22) dX7_checkOne_22 (.tail _ (.tail _ (.tail _ (.tail _ (.head _))))) ?_
  refine tw_callV (kc := 0) (ks := 0) (mc := 0) (ms := 0) (as := [.inl a1, .inl a2]) (st := []) (pc := 23) hw ta0 (by decide) dX7_checkOne_23 lkX7_139 imX7_egress seX7_egress rfl rfl (by decide) (by decide) (Nat.le_of_ble_eq_true rfl) (g_X7_egress hN2 hN8 hp0 hp64 hw a0 ta0 a1 (by omega) (by omega) a2) (fun rv h143 qh143 => ?_)
  obtain ⟨rfl, x144, rfl, lx144, ux144⟩ := qh143
  show TT _ _ _ _ _ _ _ _ [.inl x144] _
  refine tt_iload_n (pc := 26) dX7_checkOne_26 (.tail _ (.tail _ (.tail _ (.head _)))) ?_
  refine tw_icmp (tgt := 58) (pc := 27) dX7_checkOne_27 (by decide) (fun (c145 : x144.toInt ≠ a1.toInt) => ?_) (fun (c145 : ¬ (x144.toInt ≠ a1.toInt)) => ?_)
  · skip
    refine tt_iload_n (pc := 58) dX7_checkOne_58 (.tail _ (.head _)) ?_
    refine tw_iconst (pc := 59) dX7_checkOne_59 (by decide) (fun x146 ex146 => ?_)
    refine tw_icmp (tgt := 80) (pc := 60) dX7_checkOne_60 (by decide) (fun (c147 : x139.toInt = x146.toInt) => ?_) (fun (c147 : ¬ (x139.toInt = x146.toInt)) => ?_)
    · skip
      refine tt_loc [(0, .inr (some a0)), (1, .inl a1), (2, .inl a2), (3, .inl x139), (4, .inl x142)] (List.forall_mem_cons.mpr ⟨(.tail _ (.tail _ (.head _))), List.forall_mem_cons.mpr ⟨(.tail _ (.tail _ (.tail _ (.head _)))), List.forall_mem_cons.mpr ⟨(.tail _ (.tail _ (.tail _ (.tail _ (.head _))))), List.forall_mem_cons.mpr ⟨(.tail _ (.head _)), List.forall_mem_cons.mpr ⟨(.head _), fun _ z => absurd z List.not_mem_nil⟩⟩⟩⟩⟩) ?_
      exact B80 h hw hf x139 (by omega) (by omega) x142 (by omega) (by omega)
    · skip
      refine tt_iload (pc := 63) dX7_checkOne_63 (.head _) ?_
      refine tw_iconst (pc := 65) dX7_checkOne_65 (by decide) (fun x148 ex148 => ?_)
      refine tw_icmp (tgt := 74) (pc := 66) dX7_checkOne_66 (by decide) (fun (c149 : x142.toInt = x148.toInt) => ?_) (fun (c149 : ¬ (x142.toInt = x148.toInt)) => ?_)
      · skip
        refine tt_loc [(0, .inr (some a0)), (1, .inl a1), (2, .inl a2), (3, .inl x139), (4, .inl x142)] (List.forall_mem_cons.mpr ⟨(.tail _ (.tail _ (.head _))), List.forall_mem_cons.mpr ⟨(.tail _ (.tail _ (.tail _ (.head _)))), List.forall_mem_cons.mpr ⟨(.tail _ (.tail _ (.tail _ (.tail _ (.head _))))), List.forall_mem_cons.mpr ⟨(.tail _ (.head _)), List.forall_mem_cons.mpr ⟨(.head _), fun _ z => absurd z List.not_mem_nil⟩⟩⟩⟩⟩) ?_
        exact B74 h hw hf x139 (by omega) (by omega) x142 (by omega) (by omega)
      · skip
        refine tt_iload_n (pc := 69) dX7_checkOne_69 (.tail _ (.head _)) ?_
        refine tw_iconst (pc := 70) dX7_checkOne_70 (by decide) (fun x150 ex150 => ?_)
        refine tw_icmp (tgt := 80) (pc := 71) dX7_checkOne_71 (by decide) (fun (c151 : x139.toInt ≠ x150.toInt) => ?_) (fun (c151 : ¬ (x139.toInt ≠ x150.toInt)) => ?_)
        · skip
          refine tt_loc [(0, .inr (some a0)), (1, .inl a1), (2, .inl a2), (3, .inl x139), (4, .inl x142)] (List.forall_mem_cons.mpr ⟨(.tail _ (.tail _ (.head _))), List.forall_mem_cons.mpr ⟨(.tail _ (.tail _ (.tail _ (.head _)))), List.forall_mem_cons.mpr ⟨(.tail _ (.tail _ (.tail _ (.tail _ (.head _))))), List.forall_mem_cons.mpr ⟨(.tail _ (.head _)), List.forall_mem_cons.mpr ⟨(.head _), fun _ z => absurd z List.not_mem_nil⟩⟩⟩⟩⟩) ?_
          exact B80 h hw hf x139 (by omega) (by omega) x142 (by omega) (by omega)
        · skip
          refine tt_loc [(0, .inr (some a0)), (1, .inl a1), (2, .inl a2), (3, .inl x139), (4, .inl x142)] (List.forall_mem_cons.mpr ⟨(.tail _ (.tail _ (.head _))), List.forall_mem_cons.mpr ⟨(.tail _ (.tail _ (.tail _ (.head _)))), List.forall_mem_cons.mpr ⟨(.tail _ (.tail _ (.tail _ (.tail _ (.head _))))), List.forall_mem_cons.mpr ⟨(.tail _ (.head _)), List.forall_mem_cons.mpr ⟨(.head _), fun _ z => absurd z List.not_mem_nil⟩⟩⟩⟩⟩) ?_
          exact B74 h hw hf x139 (by omega) (by omega) x142 (by omega) (by omega)
  · skip
    refine tt_iload_n (pc := 30) dX7_checkOne_30 (.tail _ (.head _)) ?_
    refine tw_bipush (pc := 31) dX7_checkOne_31 (by decide) (fun x152 ex152 => ?_)
    refine tw_icmp (tgt := 42) (pc := 33) dX7_checkOne_33 (by decide) (fun (c153 : x139.toInt < x152.toInt) => ?_) (fun (c153 : ¬ (x139.toInt < x152.toInt)) => ?_)
    · skip
      refine tt_loc [(0, .inr (some a0)), (1, .inl a1), (2, .inl a2), (3, .inl x139)] (List.forall_mem_cons.mpr ⟨(.tail _ (.tail _ (.head _))), List.forall_mem_cons.mpr ⟨(.tail _ (.tail _ (.tail _ (.head _)))), List.forall_mem_cons.mpr ⟨(.tail _ (.tail _ (.tail _ (.tail _ (.head _))))), List.forall_mem_cons.mpr ⟨(.tail _ (.head _)), fun _ z => absurd z List.not_mem_nil⟩⟩⟩⟩) ?_
      exact B42 h hw hf x139 (by omega) (by omega)
    · skip
      refine tt_aload_n (pc := 36) dX7_checkOne_36 (.tail _ (.tail _ (.head _))) ?_
      refine tt_iload_n (pc := 37) dX7_checkOne_37 (.tail _ (.tail _ (.tail _ (.head _)))) ?_
      refine tt_iload_n (pc := 38) dX7_checkOne_38 (.tail _ (.tail _ (.tail _ (.tail _ (.head _))))) ?_
      refine tw_callV (kc := 0) (ks := 0) (mc := 0) (ms := 0) (as := [.inl a1, .inl a2]) (st := []) (pc := 39) hw ta0 (by decide) dX7_checkOne_39 lkX7_152 imX7_withdraw seX7_withdraw rfl rfl (by decide) (by decide) (Nat.le_of_ble_eq_true rfl) (g_X7_withdraw hN2 hN8 hp0 hp64 hw a0 ta0 a1 (by omega) (by omega) a2 (by omega) (by omega)) (fun rv h154 qh154 => ?_)
      obtain ⟨wh154, fh154, rfl⟩ := qh154
      have hfh154 := hf.tr fh154
      show TT _ _ _ _ _ _ _ _ [] _
      refine tt_loc [(0, .inr (some a0)), (1, .inl a1), (2, .inl a2), (3, .inl x139)] (List.forall_mem_cons.mpr ⟨(.tail _ (.tail _ (.head _))), List.forall_mem_cons.mpr ⟨(.tail _ (.tail _ (.tail _ (.head _)))), List.forall_mem_cons.mpr ⟨(.tail _ (.tail _ (.tail _ (.tail _ (.head _))))), List.forall_mem_cons.mpr ⟨(.tail _ (.head _)), fun _ z => absurd z List.not_mem_nil⟩⟩⟩⟩) ?_
      exact B42 h154 wh154 hfh154 x139 (by omega) (by omega)
abbrev mX7_check : tM := (RX7, cX7_check, 3, 5, 131, false)
set_option maxHeartbeats 4000000 in
theorem g_X7_check {l : Launch} {D : va_G} {N : Nat} {pk : Int} {τ : List Nat} (hN2 : 2 ≤ N) (hN8 : N ≤ 8) (hp0 : 0 ≤ pk) (hp64 : pk ≤ 64) {h : List tC} (hw : WT N pk τ h) (a0 : Nat) (ta0 : τ[a0]? = some 7) (a1 : Int32) (la1 : 0 ≤ a1.toInt) (ua1 : a1.toInt ≤ 7) : TMc l D yX7_check cX7_check 3 none 5 131 0 0 [.inr (some a0), .inl a1] h (fun rv h' => WT N pk τ h' ∧ Fr PMk τ h h' ∧ rv = none) := by
  refine tmc_of false rfl (by decide) (Nat.le_of_ble_eq_true rfl) ?_
  suffices HQ : ∀ Q0, Q0 = tRt cX7_check none (fun rv h' => WT N pk τ h' ∧ Fr PMk τ h h' ∧ rv = none) → TT l D mX7_check Q0 0 0 0 [(0, .inr (some a0)), (1, .inl a1)] [] h from HQ _ rfl
  intro Q0 hQ
  have hf : Fr PMk τ h h := Fr.rf
  have B7 : ∀ (n7 : Nat) (hb : List tC) (hwb : WT N pk τ hb) (hfb : Fr PMk τ h hb) (x38 : Int32) (lx38 : 0 ≤ x38.toInt) (ux38 : x38.toInt ≤ 8), 8 - x38.toInt < n7 → TT l D mX7_check Q0 0 0 7 [(0, .inr (some a0)), (1, .inl a1), (2, .inl x38)] [] hb := by
    intro n7
    induction n7 with
    | zero =>
      intro hb hwb hfb x38 lx38 ux38 hn7
      exfalso
      omega
    | succ n7 ih7 =>
      intro hb hwb hfb x38 lx38 ux38 hn7
      refine tt_iload_n (pc := 7) dX7_check_7 (.tail _ (.tail _ (.head _))) ?_
      refine tw_bipush (pc := 8) dX7_check_8 (by decide) (fun x39 ex39 => ?_)
      refine tw_icmp (tgt := 25) (pc := 10) dX7_check_10 (by decide) (fun (c40 : x39.toInt ≤ x38.toInt) => ?_) (fun (c40 : ¬ (x39.toInt ≤ x38.toInt)) => ?_)
      · skip
        refine tt_stop ?_
        rw [hQ]
        exact Or.inl ⟨dX7_check_25, rfl, rfl, hwb, hfb, rfl⟩
      · skip
        refine tt_aload_n (pc := 13) dX7_check_13 (.head _) ?_
        refine tt_iload_n (pc := 14) dX7_check_14 (.tail _ (.head _)) ?_
        refine tt_iload_n (pc := 15) dX7_check_15 (.tail _ (.tail _ (.head _))) ?_
        refine tw_callV (kc := 0) (ks := 0) (mc := 0) (ms := 0) (as := [.inl a1, .inl x38]) (st := []) (pc := 16) hwb ta0 (by decide) dX7_check_16 lkX7_167 imX7_checkOne seX7_checkOne rfl rfl (by decide) (by decide) (Nat.le_of_ble_eq_true rfl) (g_X7_checkOne hN2 hN8 hp0 hp64 hwb a0 ta0 a1 (by omega) (by omega) x38 (by omega) (by omega)) (fun rv h41 qh41 => ?_)
        obtain ⟨wh41, fh41, rfl⟩ := qh41
        have hfh41 := hfb.tr fh41
        show TT _ _ _ _ _ _ _ _ [] _
        refine tw_iinc (pc := 19) dX7_check_19 (.tail _ (.tail _ (.head _))) (by decide) (by decide) (by omega) (fun x42 ex42 => ?_)
        show TT _ _ _ _ _ _ _ [(2, .inl x42), (0, .inr (some a0)), (1, .inl a1)] _ _
        refine tt_goto (tgt := 7) (pc := 22) dX7_check_22 (by decide) ?_
        refine tt_loc [(0, .inr (some a0)), (1, .inl a1), (2, .inl x42)] (List.forall_mem_cons.mpr ⟨(.tail _ (.head _)), List.forall_mem_cons.mpr ⟨(.tail _ (.tail _ (.head _))), List.forall_mem_cons.mpr ⟨(.head _), fun _ z => absurd z List.not_mem_nil⟩⟩⟩) ?_
        exact ih7 h41 wh41 hfh41 x42 (by omega) (by omega) (by omega)
  refine tt_aload_n (pc := 0) dX7_check_0 (.head _) ?_
  refine tt_iload_n (pc := 1) dX7_check_1 (.tail _ (.head _)) ?_
  refine tw_callV (kc := 0) (ks := 0) (mc := 0) (ms := 0) (as := [.inl a1]) (st := []) (pc := 2) hw ta0 (by decide) dX7_check_2 lkX7_163 imX7_measure seX7_measure rfl rfl (by decide) (by decide) (Nat.le_of_ble_eq_true rfl) (g_X7_measure hN2 hN8 hp0 hp64 hw a0 ta0 a1 (by omega) (by omega)) (fun rv h43 qh43 => ?_)
  obtain ⟨wh43, fh43, rfl⟩ := qh43
  have hfh43 := hf.tr fh43
  show TT _ _ _ _ _ _ _ _ [] _
  refine tw_iconst (pc := 5) dX7_check_5 (by decide) (fun x44 ex44 => ?_)
  refine tt_istore_n (pc := 6) dX7_check_6 (by decide) ?_
  show TT _ _ _ _ _ _ _ [(2, .inl x44), (0, .inr (some a0)), (1, .inl a1)] _ _
  refine tt_loc [(0, .inr (some a0)), (1, .inl a1), (2, .inl x44)] (List.forall_mem_cons.mpr ⟨(.tail _ (.head _)), List.forall_mem_cons.mpr ⟨(.tail _ (.tail _ (.head _))), List.forall_mem_cons.mpr ⟨(.head _), fun _ z => absurd z List.not_mem_nil⟩⟩⟩) ?_
  exact B7 9 h43 wh43 hfh43 x44 (by omega) (by omega) (by omega)
abbrev mX7_mapped : tM := (RX7, cX7_mapped, 7, 6, 153, false)
set_option maxHeartbeats 4000000 in
theorem g_X7_mapped {l : Launch} {D : va_G} {N : Nat} {pk : Int} {τ : List Nat} (hN2 : 2 ≤ N) (hN8 : N ≤ 8) (hp0 : 0 ≤ pk) (hp64 : pk ≤ 64) {h : List tC} (hw : WT N pk τ h) (a0 : Nat) (ta0 : τ[a0]? = some 7) (a1 : Int32) (la1 : 0 ≤ a1.toInt) (ua1 : a1.toInt ≤ 7) (a2 : Int32) (la2 : 0 ≤ a2.toInt) (ua2 : a2.toInt ≤ 11) (a3 : Int32) (la3 : 0 ≤ a3.toInt) (ua3 : a3.toInt ≤ 7) (a4 : Int32) (la4 : -1 ≤ a4.toInt) (ua4 : a4.toInt ≤ 79) (a5 : Int32) : TMc l D yX7_mapped cX7_mapped 7 none 6 153 0 0 [.inr (some a0), .inl a1, .inl a2, .inl a3, .inl a4, .inl a5] h (fun rv h' => WT N pk τ h' ∧ Fr PMk τ h h' ∧ rv = none) := by
  refine tmc_of false rfl (by decide) (Nat.le_of_ble_eq_true rfl) ?_
  suffices HQ : ∀ Q0, Q0 = tRt cX7_mapped none (fun rv h' => WT N pk τ h' ∧ Fr PMk τ h h' ∧ rv = none) → TT l D mX7_mapped Q0 0 0 0 [(0, .inr (some a0)), (1, .inl a1), (2, .inl a2), (3, .inl a3), (4, .inl a4), (5, .inl a5)] [] h from HQ _ rfl
  intro Q0 hQ
  have hf : Fr PMk τ h h := Fr.rf
  have B79 : ∀ (hb : List tC) (hwb : WT N pk τ hb) (hfb : Fr PMk τ h hb), TT l D mX7_mapped Q0 0 0 79 [(0, .inr (some a0)), (1, .inl a1)] [] hb := by
    intro hb hwb hfb
    refine tt_aload_n (pc := 79) dX7_mapped_79 (.head _) ?_
    refine tt_iload_n (pc := 80) dX7_mapped_80 (.tail _ (.head _)) ?_
    refine tw_callV (kc := 0) (ks := 0) (mc := 0) (ms := 0) (as := [.inl a1]) (st := []) (pc := 81) hwb ta0 (by decide) dX7_mapped_81 lkX7_170 imX7_check seX7_check rfl rfl (by decide) (by decide) (Nat.le_of_ble_eq_true rfl) (g_X7_check hN2 hN8 hp0 hp64 hwb a0 ta0 a1 (by omega) (by omega)) (fun rv h44 qh44 => ?_)
    obtain ⟨wh44, fh44, rfl⟩ := qh44
    have hfh44 := hfb.tr fh44
    show TT _ _ _ _ _ _ _ _ [] _
    refine tt_stop ?_
    rw [hQ]
    exact Or.inl ⟨dX7_mapped_84, rfl, rfl, wh44, hfh44, rfl⟩
  have ba5 := i_ty a5
  refine tt_iload (pc := 0) dX7_mapped_0 (.tail _ (.tail _ (.tail _ (.tail _ (.tail _ (.head _)))))) ?_
  refine tt_iload_n (pc := 2) dX7_mapped_2 (.tail _ (.head _)) ?_
  refine tt_ishr (pc := 3) dX7_mapped_3 ?_
  refine tw_any (fun x45 => ?_)
  have bx45 := i_ty x45
  refine tw_iconst (pc := 4) dX7_mapped_4 (by decide) (fun x46 ex46 => ?_)
  refine tt_iand (pc := 5) dX7_mapped_5 ?_
  refine tw_any (fun x47 => ?_)
  have bx47 := i_ty x47
  refine tw_iconst (pc := 6) dX7_mapped_6 (by decide) (fun x48 ex48 => ?_)
  refine tw_icmp (tgt := 14) (pc := 7) dX7_mapped_7 (by decide) (fun (c49 : x47.toInt ≠ x48.toInt) => ?_) (fun (c49 : ¬ (x47.toInt ≠ x48.toInt)) => ?_)
  · skip
    refine tw_iconst (pc := 14) dX7_mapped_14 (by decide) (fun x50 ex50 => ?_)
    refine tt_istore (pc := 15) dX7_mapped_15 (by decide) ?_
    show TT _ _ _ _ _ _ _ [(6, .inl x50), (0, .inr (some a0)), (1, .inl a1), (2, .inl a2), (3, .inl a3), (4, .inl a4), (5, .inl a5)] _ _
    refine tt_aload_n (pc := 17) dX7_mapped_17 (.tail _ (.head _)) ?_
    refine tw_getr (pc := 18) dX7_mapped_18 flX7_56 hw ta0 (by decide) rfl (fun f51 q52 ef51 gf51 tq52 => ?_)
    refine tt_aload_n (pc := 21) dX7_mapped_21 (.tail _ (.head _)) ?_
    refine tt_iload_n (pc := 22) dX7_mapped_22 (.tail _ (.tail _ (.head _))) ?_
    refine tt_iload_n (pc := 23) dX7_mapped_23 (.tail _ (.tail _ (.tail _ (.tail _ (.head _))))) ?_
    refine tt_iload_n (pc := 24) dX7_mapped_24 (.tail _ (.tail _ (.tail _ (.head _)))) ?_
    refine tw_callV (kc := 0) (ks := 0) (mc := 0) (ms := 0) (as := [.inl a1, .inl a3, .inl a2]) (st := [.inr (some q52)]) (pc := 25) hw ta0 (by decide) dX7_mapped_25 lkX7_145 imX7_slot seX7_slot rfl rfl (by decide) (by decide) (Nat.le_of_ble_eq_true rfl) (g_X7_slot hN2 hN8 hp0 hp64 hw a0 ta0 a1 (by omega) (by omega) a3 (by omega) (by omega) a2 (by omega) (by omega)) (fun rv h53 qh53 => ?_)
    obtain ⟨rfl, x54, rfl, lx54, ux54⟩ := qh53
    show TT _ _ _ _ _ _ _ _ [.inl x54, .inr (some q52)] _
    refine tt_iload (pc := 28) dX7_mapped_28 (.head _) ?_
    refine tw_if (tgt := 37) (pc := 30) dX7_mapped_30 (by decide) (fun (c55 : x50.toInt = 0) => ?_) (fun (c55 : ¬ (x50.toInt = 0)) => ?_)
    · skip
      refine tt_iload (pc := 37) dX7_mapped_37 (.tail _ (.tail _ (.tail _ (.tail _ (.tail _ (.head _)))))) ?_
      refine tw_ist (P := PMk) (pc := 39) dX7_mapped_39 hw tq52 rfl (by omega) (by omega) (by omega) (by omega) (by decide) (fun f56 h57 eh57 gh57 kh57 wh57 fh57 => ?_)
      have hfh57 := hf.tr fh57
      refine tt_aload_n (pc := 40) dX7_mapped_40 (.tail _ (.head _)) ?_
      refine tw_getr (pc := 41) dX7_mapped_41 flX7_59 wh57 ta0 (by decide) rfl (fun f58 q59 ef58 gf58 tq59 => ?_)
      refine tt_aload_n (pc := 44) dX7_mapped_44 (.tail _ (.head _)) ?_
      refine tt_iload_n (pc := 45) dX7_mapped_45 (.tail _ (.tail _ (.head _))) ?_
      refine tt_iload_n (pc := 46) dX7_mapped_46 (.tail _ (.tail _ (.tail _ (.tail _ (.head _))))) ?_
      refine tt_iload_n (pc := 47) dX7_mapped_47 (.tail _ (.tail _ (.tail _ (.head _)))) ?_
      refine tw_callV (kc := 0) (ks := 0) (mc := 0) (ms := 0) (as := [.inl a1, .inl a3, .inl a2]) (st := [.inr (some q59)]) (pc := 48) wh57 ta0 (by decide) dX7_mapped_48 lkX7_145 imX7_slot seX7_slot rfl rfl (by decide) (by decide) (Nat.le_of_ble_eq_true rfl) (g_X7_slot hN2 hN8 hp0 hp64 wh57 a0 ta0 a1 (by omega) (by omega) a3 (by omega) (by omega) a2 (by omega) (by omega)) (fun rv h60 qh60 => ?_)
      obtain ⟨rfl, x61, rfl, lx61, ux61⟩ := qh60
      show TT _ _ _ _ _ _ _ _ [.inl x61, .inr (some q59)] _
      refine tt_iload (pc := 51) dX7_mapped_51 (.head _) ?_
      refine tw_if (tgt := 60) (pc := 53) dX7_mapped_53 (by decide) (fun (c62 : x50.toInt = 0) => ?_) (fun (c62 : ¬ (x50.toInt = 0)) => ?_)
      · skip
        refine tt_iload (pc := 60) dX7_mapped_60 (.tail _ (.tail _ (.tail _ (.tail _ (.tail _ (.tail _ (.head _))))))) ?_
        refine tw_ist (P := PMk) (pc := 62) dX7_mapped_62 wh57 tq59 rfl (by omega) (by omega) (by omega) (by omega) (by decide) (fun f63 h64 eh64 gh64 kh64 wh64 fh64 => ?_)
        have hfh64 := hfh57.tr fh64
        refine tt_iload (pc := 63) dX7_mapped_63 (.head _) ?_
        refine tw_if (tgt := 79) (pc := 65) dX7_mapped_65 (by decide) (fun (c65 : x50.toInt = 0) => ?_) (fun (c65 : ¬ (x50.toInt = 0)) => ?_)
        · skip
          refine tt_loc [(0, .inr (some a0)), (1, .inl a1)] (List.forall_mem_cons.mpr ⟨(.tail _ (.head _)), List.forall_mem_cons.mpr ⟨(.tail _ (.tail _ (.head _))), fun _ z => absurd z List.not_mem_nil⟩⟩) ?_
          exact B79 h64 wh64 hfh64
        · skip
          exfalso
          omega
      · skip
        exfalso
        omega
    · skip
      exfalso
      omega
  · skip
    refine tw_iconst (pc := 10) dX7_mapped_10 (by decide) (fun x66 ex66 => ?_)
    refine tt_goto (tgt := 15) (pc := 11) dX7_mapped_11 (by decide) ?_
    refine tt_istore (pc := 15) dX7_mapped_15 (by decide) ?_
    show TT _ _ _ _ _ _ _ [(6, .inl x66), (0, .inr (some a0)), (1, .inl a1), (2, .inl a2), (3, .inl a3), (4, .inl a4), (5, .inl a5)] _ _
    refine tt_aload_n (pc := 17) dX7_mapped_17 (.tail _ (.head _)) ?_
    refine tw_getr (pc := 18) dX7_mapped_18 flX7_56 hw ta0 (by decide) rfl (fun f67 q68 ef67 gf67 tq68 => ?_)
    refine tt_aload_n (pc := 21) dX7_mapped_21 (.tail _ (.head _)) ?_
    refine tt_iload_n (pc := 22) dX7_mapped_22 (.tail _ (.tail _ (.head _))) ?_
    refine tt_iload_n (pc := 23) dX7_mapped_23 (.tail _ (.tail _ (.tail _ (.tail _ (.head _))))) ?_
    refine tt_iload_n (pc := 24) dX7_mapped_24 (.tail _ (.tail _ (.tail _ (.head _)))) ?_
    refine tw_callV (kc := 0) (ks := 0) (mc := 0) (ms := 0) (as := [.inl a1, .inl a3, .inl a2]) (st := [.inr (some q68)]) (pc := 25) hw ta0 (by decide) dX7_mapped_25 lkX7_145 imX7_slot seX7_slot rfl rfl (by decide) (by decide) (Nat.le_of_ble_eq_true rfl) (g_X7_slot hN2 hN8 hp0 hp64 hw a0 ta0 a1 (by omega) (by omega) a3 (by omega) (by omega) a2 (by omega) (by omega)) (fun rv h69 qh69 => ?_)
    obtain ⟨rfl, x70, rfl, lx70, ux70⟩ := qh69
    show TT _ _ _ _ _ _ _ _ [.inl x70, .inr (some q68)] _
    refine tt_iload (pc := 28) dX7_mapped_28 (.head _) ?_
    refine tw_if (tgt := 37) (pc := 30) dX7_mapped_30 (by decide) (fun (c71 : x66.toInt = 0) => ?_) (fun (c71 : ¬ (x66.toInt = 0)) => ?_)
    · skip
      exfalso
      omega
    · skip
      refine tw_iconst (pc := 33) dX7_mapped_33 (by decide) (fun x72 ex72 => ?_)
      refine tt_goto (tgt := 39) (pc := 34) dX7_mapped_34 (by decide) ?_
      refine tw_ist (P := PMk) (pc := 39) dX7_mapped_39 hw tq68 rfl (by omega) (by omega) (by omega) (by omega) (by decide) (fun f73 h74 eh74 gh74 kh74 wh74 fh74 => ?_)
      have hfh74 := hf.tr fh74
      refine tt_aload_n (pc := 40) dX7_mapped_40 (.tail _ (.head _)) ?_
      refine tw_getr (pc := 41) dX7_mapped_41 flX7_59 wh74 ta0 (by decide) rfl (fun f75 q76 ef75 gf75 tq76 => ?_)
      refine tt_aload_n (pc := 44) dX7_mapped_44 (.tail _ (.head _)) ?_
      refine tt_iload_n (pc := 45) dX7_mapped_45 (.tail _ (.tail _ (.head _))) ?_
      refine tt_iload_n (pc := 46) dX7_mapped_46 (.tail _ (.tail _ (.tail _ (.tail _ (.head _))))) ?_
      refine tt_iload_n (pc := 47) dX7_mapped_47 (.tail _ (.tail _ (.tail _ (.head _)))) ?_
      refine tw_callV (kc := 0) (ks := 0) (mc := 0) (ms := 0) (as := [.inl a1, .inl a3, .inl a2]) (st := [.inr (some q76)]) (pc := 48) wh74 ta0 (by decide) dX7_mapped_48 lkX7_145 imX7_slot seX7_slot rfl rfl (by decide) (by decide) (Nat.le_of_ble_eq_true rfl) (g_X7_slot hN2 hN8 hp0 hp64 wh74 a0 ta0 a1 (by omega) (by omega) a3 (by omega) (by omega) a2 (by omega) (by omega)) (fun rv h77 qh77 => ?_)
      obtain ⟨rfl, x78, rfl, lx78, ux78⟩ := qh77
      show TT _ _ _ _ _ _ _ _ [.inl x78, .inr (some q76)] _
      refine tt_iload (pc := 51) dX7_mapped_51 (.head _) ?_
      refine tw_if (tgt := 60) (pc := 53) dX7_mapped_53 (by decide) (fun (c79 : x66.toInt = 0) => ?_) (fun (c79 : ¬ (x66.toInt = 0)) => ?_)
      · skip
        exfalso
        omega
      · skip
        refine tw_iconst (pc := 56) dX7_mapped_56 (by decide) (fun x80 ex80 => ?_)
        refine tt_goto (tgt := 62) (pc := 57) dX7_mapped_57 (by decide) ?_
        refine tw_ist (P := PMk) (pc := 62) dX7_mapped_62 wh74 tq76 rfl (by omega) (by omega) (by omega) (by omega) (by decide) (fun f81 h82 eh82 gh82 kh82 wh82 fh82 => ?_)
        have hfh82 := hfh74.tr fh82
        refine tt_iload (pc := 63) dX7_mapped_63 (.head _) ?_
        refine tw_if (tgt := 79) (pc := 65) dX7_mapped_65 (by decide) (fun (c83 : x66.toInt = 0) => ?_) (fun (c83 : ¬ (x66.toInt = 0)) => ?_)
        · skip
          exfalso
          omega
        · skip
          refine tt_aload_n (pc := 68) dX7_mapped_68 (.tail _ (.head _)) ?_
          refine tt_iload_n (pc := 69) dX7_mapped_69 (.tail _ (.tail _ (.head _))) ?_
          refine tt_iload_n (pc := 70) dX7_mapped_70 (.tail _ (.tail _ (.tail _ (.head _)))) ?_
          refine tw_iconst (pc := 71) dX7_mapped_71 (by decide) (fun x84 ex84 => ?_)
          refine tt_iload_n (pc := 72) dX7_mapped_72 (.tail _ (.tail _ (.tail _ (.tail _ (.head _))))) ?_
          refine tt_iload (pc := 73) dX7_mapped_73 (.tail _ (.tail _ (.tail _ (.tail _ (.tail _ (.head _)))))) ?_
          refine tw_iconst (pc := 75) dX7_mapped_75 (by decide) (fun x85 ex85 => ?_)
          refine tw_callV (kc := 0) (ks := 0) (mc := 0) (ms := 0) (as := [.inl a1, .inl a2, .inl x84, .inl a3, .inl a4, .inl x85]) (st := []) (pc := 76) wh82 ta0 (by decide) dX7_mapped_76 lkX7_113 imX7_send seX7_send rfl rfl (by decide) (by decide) (Nat.le_of_ble_eq_true rfl) (g_X7_sendB hN2 hN8 hp0 hp64 wh82 a0 ta0 a1 (by omega) (by omega) a2 (by omega) (by omega) x84 (by omega) (by omega) a3 (by omega) (by omega) a4 (by omega) (by omega) x85) (fun rv h86 qh86 => ?_)
          obtain ⟨wh86, fh86, rfl⟩ := qh86
          have hfh86 := hfh82.tr fh86
          show TT _ _ _ _ _ _ _ _ [] _
          refine tt_loc [(0, .inr (some a0)), (1, .inl a1)] (List.forall_mem_cons.mpr ⟨(.tail _ (.head _)), List.forall_mem_cons.mpr ⟨(.tail _ (.tail _ (.head _))), fun _ z => absurd z List.not_mem_nil⟩⟩) ?_
          exact B79 h86 wh86 hfh86
abbrev mX7_withdrawn : tM := (RX7, cX7_withdrawn, 5, 6, 153, false)
set_option maxHeartbeats 4000000 in
theorem g_X7_withdrawn {l : Launch} {D : va_G} {N : Nat} {pk : Int} {τ : List Nat} (hN2 : 2 ≤ N) (hN8 : N ≤ 8) (hp0 : 0 ≤ pk) (hp64 : pk ≤ 64) {h : List tC} (hw : WT N pk τ h) (a0 : Nat) (ta0 : τ[a0]? = some 7) (a1 : Int32) (la1 : 0 ≤ a1.toInt) (ua1 : a1.toInt ≤ 7) (a2 : Int32) (la2 : 0 ≤ a2.toInt) (ua2 : a2.toInt ≤ 11) (a3 : Int32) (la3 : 0 ≤ a3.toInt) (ua3 : a3.toInt ≤ 7) (a4 : Int32) (la4 : -1 ≤ a4.toInt) (ua4 : a4.toInt ≤ 79) : TMc l D yX7_withdrawn cX7_withdrawn 5 none 6 153 0 0 [.inr (some a0), .inl a1, .inl a2, .inl a3, .inl a4] h (fun rv h' => WT N pk τ h' ∧ Fr PMk τ h h' ∧ rv = none) := by
  refine tmc_of false rfl (by decide) (Nat.le_of_ble_eq_true rfl) ?_
  suffices HQ : ∀ Q0, Q0 = tRt cX7_withdrawn none (fun rv h' => WT N pk τ h' ∧ Fr PMk τ h h' ∧ rv = none) → TT l D mX7_withdrawn Q0 0 0 0 [(0, .inr (some a0)), (1, .inl a1), (2, .inl a2), (3, .inl a3), (4, .inl a4)] [] h from HQ _ rfl
  intro Q0 hQ
  have hf : Fr PMk τ h h := Fr.rf
  have B30 : ∀ (hb : List tC) (hwb : WT N pk τ hb) (hfb : Fr PMk τ h hb), TT l D mX7_withdrawn Q0 0 0 30 [(0, .inr (some a0)), (1, .inl a1), (2, .inl a2), (3, .inl a3), (4, .inl a4)] [] hb := by
    intro hb hwb hfb
    refine tt_aload_n (pc := 30) dX7_withdrawn_30 (.head _) ?_
    refine tt_iload_n (pc := 31) dX7_withdrawn_31 (.tail _ (.head _)) ?_
    refine tt_iload_n (pc := 32) dX7_withdrawn_32 (.tail _ (.tail _ (.head _))) ?_
    refine tw_iconst (pc := 33) dX7_withdrawn_33 (by decide) (fun x17 ex17 => ?_)
    refine tt_iload_n (pc := 34) dX7_withdrawn_34 (.tail _ (.tail _ (.tail _ (.head _)))) ?_
    refine tt_iload (pc := 35) dX7_withdrawn_35 (.tail _ (.tail _ (.tail _ (.tail _ (.head _))))) ?_
    refine tw_iconst (pc := 37) dX7_withdrawn_37 (by decide) (fun x18 ex18 => ?_)
    refine tw_callV (kc := 0) (ks := 0) (mc := 0) (ms := 0) (as := [.inl a1, .inl a2, .inl x17, .inl a3, .inl a4, .inl x18]) (st := []) (pc := 38) hwb ta0 (by decide) dX7_withdrawn_38 lkX7_113 imX7_send seX7_send rfl rfl (by decide) (by decide) (Nat.le_of_ble_eq_true rfl) (g_X7_sendB hN2 hN8 hp0 hp64 hwb a0 ta0 a1 (by omega) (by omega) a2 (by omega) (by omega) x17 (by omega) (by omega) a3 (by omega) (by omega) a4 (by omega) (by omega) x18) (fun rv h19 qh19 => ?_)
    obtain ⟨wh19, fh19, rfl⟩ := qh19
    have hfh19 := hfb.tr fh19
    show TT _ _ _ _ _ _ _ _ [] _
    refine tt_aload_n (pc := 41) dX7_withdrawn_41 (.head _) ?_
    refine tt_iload_n (pc := 42) dX7_withdrawn_42 (.tail _ (.head _)) ?_
    refine tw_callV (kc := 0) (ks := 0) (mc := 0) (ms := 0) (as := [.inl a1]) (st := []) (pc := 43) wh19 ta0 (by decide) dX7_withdrawn_43 lkX7_170 imX7_check seX7_check rfl rfl (by decide) (by decide) (Nat.le_of_ble_eq_true rfl) (g_X7_check hN2 hN8 hp0 hp64 wh19 a0 ta0 a1 (by omega) (by omega)) (fun rv h20 qh20 => ?_)
    obtain ⟨wh20, fh20, rfl⟩ := qh20
    have hfh20 := hfh19.tr fh20
    show TT _ _ _ _ _ _ _ _ [] _
    refine tt_stop ?_
    rw [hQ]
    exact Or.inl ⟨dX7_withdrawn_46, rfl, rfl, wh20, hfh20, rfl⟩
  refine tt_aload_n (pc := 0) dX7_withdrawn_0 (.head _) ?_
  refine tw_getr (pc := 1) dX7_withdrawn_1 flX7_56 hw ta0 (by decide) rfl (fun f21 q22 ef21 gf21 tq22 => ?_)
  refine tt_aload_n (pc := 4) dX7_withdrawn_4 (.head _) ?_
  refine tt_iload_n (pc := 5) dX7_withdrawn_5 (.tail _ (.head _)) ?_
  refine tt_iload_n (pc := 6) dX7_withdrawn_6 (.tail _ (.tail _ (.tail _ (.head _)))) ?_
  refine tt_iload_n (pc := 7) dX7_withdrawn_7 (.tail _ (.tail _ (.head _))) ?_
  refine tw_callV (kc := 0) (ks := 0) (mc := 0) (ms := 0) (as := [.inl a1, .inl a3, .inl a2]) (st := [.inr (some q22)]) (pc := 8) hw ta0 (by decide) dX7_withdrawn_8 lkX7_145 imX7_slot seX7_slot rfl rfl (by decide) (by decide) (Nat.le_of_ble_eq_true rfl) (g_X7_slot hN2 hN8 hp0 hp64 hw a0 ta0 a1 (by omega) (by omega) a3 (by omega) (by omega) a2 (by omega) (by omega)) (fun rv h23 qh23 => ?_)
  obtain ⟨rfl, x24, rfl, lx24, ux24⟩ := qh23
  show TT _ _ _ _ _ _ _ _ [.inl x24, .inr (some q22)] _
  refine tw_ild (pc := 11) dX7_withdrawn_11 hw tq22 rfl (by omega) (by omega) (fun f26 x25 ef26 gf26 lx25 ux25 => ?_)
  refine tt_iload (pc := 12) dX7_withdrawn_12 (.tail _ (.tail _ (.tail _ (.tail _ (.head _))))) ?_
  refine tw_icmp (tgt := 30) (pc := 14) dX7_withdrawn_14 (by decide) (fun (c27 : x25.toInt ≠ a4.toInt) => ?_) (fun (c27 : ¬ (x25.toInt ≠ a4.toInt)) => ?_)
  · skip
    refine tt_loc [(0, .inr (some a0)), (1, .inl a1), (2, .inl a2), (3, .inl a3), (4, .inl a4)] (List.forall_mem_cons.mpr ⟨(.head _), List.forall_mem_cons.mpr ⟨(.tail _ (.head _)), List.forall_mem_cons.mpr ⟨(.tail _ (.tail _ (.head _))), List.forall_mem_cons.mpr ⟨(.tail _ (.tail _ (.tail _ (.head _)))), List.forall_mem_cons.mpr ⟨(.tail _ (.tail _ (.tail _ (.tail _ (.head _))))), fun _ z => absurd z List.not_mem_nil⟩⟩⟩⟩⟩) ?_
    exact B30 h hw hf
  · skip
    refine tt_aload_n (pc := 17) dX7_withdrawn_17 (.head _) ?_
    refine tt_get (pc := 18) dX7_withdrawn_18 flX7_56 ef21 gf21 ?_
    refine tt_aload_n (pc := 21) dX7_withdrawn_21 (.head _) ?_
    refine tt_iload_n (pc := 22) dX7_withdrawn_22 (.tail _ (.head _)) ?_
    refine tt_iload_n (pc := 23) dX7_withdrawn_23 (.tail _ (.tail _ (.tail _ (.head _)))) ?_
    refine tt_iload_n (pc := 24) dX7_withdrawn_24 (.tail _ (.tail _ (.head _))) ?_
    refine tw_callV (kc := 0) (ks := 0) (mc := 0) (ms := 0) (as := [.inl a1, .inl a3, .inl a2]) (st := [.inr (some q22)]) (pc := 25) hw ta0 (by decide) dX7_withdrawn_25 lkX7_145 imX7_slot seX7_slot rfl rfl (by decide) (by decide) (Nat.le_of_ble_eq_true rfl) (g_X7_slot hN2 hN8 hp0 hp64 hw a0 ta0 a1 (by omega) (by omega) a3 (by omega) (by omega) a2 (by omega) (by omega)) (fun rv h28 qh28 => ?_)
    obtain ⟨rfl, x29, rfl, lx29, ux29⟩ := qh28
    show TT _ _ _ _ _ _ _ _ [.inl x29, .inr (some q22)] _
    refine tw_iconst (pc := 28) dX7_withdrawn_28 (by decide) (fun x30 ex30 => ?_)
    refine tw_ist (P := PMk) (pc := 29) dX7_withdrawn_29 hw tq22 rfl (by omega) (by omega) (by omega) (by omega) (by decide) (fun f31 h32 eh32 gh32 kh32 wh32 fh32 => ?_)
    have hfh32 := hf.tr fh32
    refine tt_loc [(0, .inr (some a0)), (1, .inl a1), (2, .inl a2), (3, .inl a3), (4, .inl a4)] (List.forall_mem_cons.mpr ⟨(.head _), List.forall_mem_cons.mpr ⟨(.tail _ (.head _)), List.forall_mem_cons.mpr ⟨(.tail _ (.tail _ (.head _))), List.forall_mem_cons.mpr ⟨(.tail _ (.tail _ (.tail _ (.head _)))), List.forall_mem_cons.mpr ⟨(.tail _ (.tail _ (.tail _ (.tail _ (.head _))))), fun _ z => absurd z List.not_mem_nil⟩⟩⟩⟩⟩) ?_
    exact B30 h32 wh32 hfh32
abbrev mX7_released : tM := (RX7, cX7_released, 5, 6, 153, false)
set_option maxHeartbeats 4000000 in
theorem g_X7_released {l : Launch} {D : va_G} {N : Nat} {pk : Int} {τ : List Nat} (hN2 : 2 ≤ N) (hN8 : N ≤ 8) (hp0 : 0 ≤ pk) (hp64 : pk ≤ 64) {h : List tC} (hw : WT N pk τ h) (a0 : Nat) (ta0 : τ[a0]? = some 7) (a1 : Int32) (la1 : 0 ≤ a1.toInt) (ua1 : a1.toInt ≤ 7) (a2 : Int32) (la2 : 0 ≤ a2.toInt) (ua2 : a2.toInt ≤ 11) (a3 : Int32) (la3 : 0 ≤ a3.toInt) (ua3 : a3.toInt ≤ 7) (a4 : Int32) (la4 : -1 ≤ a4.toInt) (ua4 : a4.toInt ≤ 79) : TMc l D yX7_released cX7_released 5 none 6 153 0 0 [.inr (some a0), .inl a1, .inl a2, .inl a3, .inl a4] h (fun rv h' => WT N pk τ h' ∧ Fr PMk τ h h' ∧ rv = none) := by
  refine tmc_of false rfl (by decide) (Nat.le_of_ble_eq_true rfl) ?_
  suffices HQ : ∀ Q0, Q0 = tRt cX7_released none (fun rv h' => WT N pk τ h' ∧ Fr PMk τ h h' ∧ rv = none) → TT l D mX7_released Q0 0 0 0 [(0, .inr (some a0)), (1, .inl a1), (2, .inl a2), (3, .inl a3), (4, .inl a4)] [] h from HQ _ rfl
  intro Q0 hQ
  have hf : Fr PMk τ h h := Fr.rf
  have B28 : ∀ (hb : List tC) (hwb : WT N pk τ hb) (hfb : Fr PMk τ h hb), TT l D mX7_released Q0 0 0 28 [] [] hb := by
    intro hb hwb hfb
    refine tt_stop ?_
    rw [hQ]
    exact Or.inl ⟨dX7_released_28, rfl, rfl, hwb, hfb, rfl⟩
  refine tt_iload (pc := 0) dX7_released_0 (.tail _ (.tail _ (.tail _ (.tail _ (.head _))))) ?_
  refine tw_bipush (pc := 2) dX7_released_2 (by decide) (fun x35 ex35 => ?_)
  refine tw_icmp (tgt := 28) (pc := 4) dX7_released_4 (by decide) (fun (c36 : a4.toInt < x35.toInt) => ?_) (fun (c36 : ¬ (a4.toInt < x35.toInt)) => ?_)
  · skip
    refine tt_loc [] (fun _ z => absurd z List.not_mem_nil) ?_
    exact B28 h hw hf
  · skip
    refine tt_aload_n (pc := 7) dX7_released_7 (.head _) ?_
    refine tw_getr (pc := 8) dX7_released_8 flX7_68 hw ta0 (by decide) rfl (fun f37 q38 ef37 gf37 tq38 => ?_)
    refine tw_bipush (pc := 11) dX7_released_11 (by decide) (fun x39 ex39 => ?_)
    refine tt_iload_n (pc := 13) dX7_released_13 (.tail _ (.head _)) ?_
    refine tw_imul (c := 64) (pc := 14) dX7_released_14 (by omega) (by omega) (fun x40 ex40 => ?_)
    refine tt_iload (pc := 15) dX7_released_15 (.tail _ (.tail _ (.tail _ (.tail _ (.head _))))) ?_
    refine tw_iadd (pc := 17) dX7_released_17 (by omega) (fun x41 ex41 => ?_)
    refine tw_bipush (pc := 18) dX7_released_18 (by decide) (fun x42 ex42 => ?_)
    refine tw_isub (pc := 20) dX7_released_20 (by omega) (fun x43 ex43 => ?_)
    refine tw_ild (pc := 21) dX7_released_21 hw tq38 rfl (by omega) (by omega) (fun f45 x44 ef45 gf45 lx44 ux44 => ?_)
    refine tt_iload_n (pc := 22) dX7_released_22 (.tail _ (.tail _ (.tail _ (.head _)))) ?_
    refine tw_iconst (pc := 23) dX7_released_23 (by decide) (fun x46 ex46 => ?_)
    refine tw_iadd (pc := 24) dX7_released_24 (by omega) (fun x47 ex47 => ?_)
    refine tw_icmp (tgt := 29) (pc := 25) dX7_released_25 (by decide) (fun (c48 : x44.toInt = x47.toInt) => ?_) (fun (c48 : ¬ (x44.toInt = x47.toInt)) => ?_)
    · skip
      refine tt_aload_n (pc := 29) dX7_released_29 (.head _) ?_
      refine tw_getr (pc := 30) dX7_released_30 flX7_71 hw ta0 (by decide) rfl (fun f49 q50 ef49 gf49 tq50 => ?_)
      refine tw_bipush (pc := 33) dX7_released_33 (by decide) (fun x51 ex51 => ?_)
      refine tt_iload_n (pc := 35) dX7_released_35 (.tail _ (.head _)) ?_
      refine tw_imul (c := 64) (pc := 36) dX7_released_36 (by omega) (by omega) (fun x52 ex52 => ?_)
      refine tt_iload (pc := 37) dX7_released_37 (.tail _ (.tail _ (.tail _ (.tail _ (.head _))))) ?_
      refine tw_iadd (pc := 39) dX7_released_39 (by omega) (fun x53 ex53 => ?_)
      refine tw_bipush (pc := 40) dX7_released_40 (by decide) (fun x54 ex54 => ?_)
      refine tw_isub (pc := 42) dX7_released_42 (by omega) (fun x55 ex55 => ?_)
      refine tt_dup2 (pc := 43) dX7_released_43 ?_
      refine tw_ild (pc := 44) dX7_released_44 hw tq50 rfl (by omega) (by omega) (fun f57 x56 ef57 gf57 lx56 ux56 => ?_)
      refine tw_iconst (pc := 45) dX7_released_45 (by decide) (fun x58 ex58 => ?_)
      refine tt_iload_n (pc := 46) dX7_released_46 (.tail _ (.tail _ (.head _))) ?_
      refine tt_ishl (pc := 47) dX7_released_47 ?_
      refine tw_any (fun x59 => ?_)
      have bx59 := i_ty x59
      refine tw_iconst (pc := 48) dX7_released_48 (by decide) (fun x60 ex60 => ?_)
      refine tt_ixor (pc := 49) dX7_released_49 ?_
      refine tw_any (fun x61 => ?_)
      have bx61 := i_ty x61
      refine tt_iand (pc := 50) dX7_released_50 ?_
      refine tw_any (fun x62 => ?_)
      have bx62 := i_ty x62
      refine tw_ist (P := PMk) (pc := 51) dX7_released_51 hw tq50 rfl (by omega) (by omega) (by omega) (by omega) (by decide) (fun f63 h64 eh64 gh64 kh64 wh64 fh64 => ?_)
      have hfh64 := hf.tr fh64
      refine tt_aload_n (pc := 52) dX7_released_52 (.head _) ?_
      refine tt_iload_n (pc := 53) dX7_released_53 (.tail _ (.head _)) ?_
      refine tt_iload (pc := 54) dX7_released_54 (.tail _ (.tail _ (.tail _ (.tail _ (.head _))))) ?_
      refine tw_bipush (pc := 56) dX7_released_56 (by decide) (fun x65 ex65 => ?_)
      refine tw_isub (pc := 58) dX7_released_58 (by omega) (fun x66 ex66 => ?_)
      refine tw_callV (kc := 0) (ks := 0) (mc := 0) (ms := 0) (as := [.inl a1, .inl x66]) (st := []) (pc := 59) wh64 ta0 (by decide) dX7_released_59 lkX7_135 imX7_settle seX7_settle rfl rfl (by decide) (by decide) (Nat.le_of_ble_eq_true rfl) (g_X7_settle hN2 hN8 hp0 hp64 wh64 a0 ta0 a1 (by omega) (by omega) x66 (by omega) (by omega)) (fun rv h67 qh67 => ?_)
      obtain ⟨wh67, fh67, rfl⟩ := qh67
      have hfh67 := hfh64.tr fh67
      show TT _ _ _ _ _ _ _ _ [] _
      refine tt_aload_n (pc := 62) dX7_released_62 (.head _) ?_
      refine tt_iload_n (pc := 63) dX7_released_63 (.tail _ (.head _)) ?_
      refine tw_callV (kc := 0) (ks := 0) (mc := 0) (ms := 0) (as := [.inl a1]) (st := []) (pc := 64) wh67 ta0 (by decide) dX7_released_64 lkX7_170 imX7_check seX7_check rfl rfl (by decide) (by decide) (Nat.le_of_ble_eq_true rfl) (g_X7_check hN2 hN8 hp0 hp64 wh67 a0 ta0 a1 (by omega) (by omega)) (fun rv h68 qh68 => ?_)
      obtain ⟨wh68, fh68, rfl⟩ := qh68
      have hfh68 := hfh67.tr fh68
      show TT _ _ _ _ _ _ _ _ [] _
      refine tt_stop ?_
      rw [hQ]
      exact Or.inl ⟨dX7_released_67, rfl, rfl, wh68, hfh68, rfl⟩
    · skip
      refine tt_loc [] (fun _ z => absurd z List.not_mem_nil) ?_
      exact B28 h hw hf
abbrev mX7_showNotes : tM := (RX7, cX7_showNotes, 4, 2, 54, false)
set_option maxHeartbeats 4000000 in
theorem g_X7_showNotes {l : Launch} {D : va_G} {N : Nat} {pk : Int} {τ : List Nat} (hN2 : 2 ≤ N) (hN8 : N ≤ 8) (hp0 : 0 ≤ pk) (hp64 : pk ≤ 64) {h : List tC} (hw : WT N pk τ h) (a0 : Nat) (ta0 : τ[a0]? = some 7) (a1 : Int32) (la1 : 0 ≤ a1.toInt) (ua1 : a1.toInt ≤ 7) (a2 : Int32) (la2 : 0 ≤ a2.toInt) (ua2 : a2.toInt ≤ 11) : TMc l D yX7_showNotes cX7_showNotes 4 none 2 54 0 0 [.inr (some a0), .inl a1, .inl a2] h (fun rv h' => WT N pk τ h' ∧ Fr PMk τ h h' ∧ rv = none) := by
  refine tmc_of false rfl (by decide) (Nat.le_of_ble_eq_true rfl) ?_
  suffices HQ : ∀ Q0, Q0 = tRt cX7_showNotes none (fun rv h' => WT N pk τ h' ∧ Fr PMk τ h h' ∧ rv = none) → TT l D mX7_showNotes Q0 0 0 0 [(0, .inr (some a0)), (1, .inl a1), (2, .inl a2)] [] h from HQ _ rfl
  intro Q0 hQ
  have hf : Fr PMk τ h h := Fr.rf
  have B2 : ∀ (n2 : Nat) (hb : List tC) (hwb : WT N pk τ hb) (hfb : Fr PMk τ h hb) (x168 : Int32) (lx168 : 0 ≤ x168.toInt) (ux168 : x168.toInt ≤ 8), 8 - x168.toInt < n2 → TT l D mX7_showNotes Q0 0 0 2 [(0, .inr (some a0)), (1, .inl a1), (2, .inl a2), (3, .inl x168)] [] hb := by
    intro n2
    induction n2 with
    | zero =>
      intro hb hwb hfb x168 lx168 ux168 hn2
      exfalso
      omega
    | succ n2 ih2 =>
      intro hb hwb hfb x168 lx168 ux168 hn2
      have B54 : ∀ (hb : List tC) (hwb : WT N pk τ hb) (hfb : Fr PMk τ h hb) (x169 : Int32) (lx169 : 0 ≤ x169.toInt) (ux169 : x169.toInt ≤ 7) (hn2 : 8 - x169.toInt < ((n2 + 1 : Nat) : Int)), TT l D mX7_showNotes Q0 0 0 54 [(0, .inr (some a0)), (1, .inl a1), (2, .inl a2), (3, .inl x169)] [] hb := by
        intro hb hwb hfb x169 lx169 ux169 hn2
        refine tw_iinc (pc := 54) dX7_showNotes_54 (.tail _ (.tail _ (.tail _ (.head _)))) (by decide) (by decide) (by omega) (fun x170 ex170 => ?_)
        show TT _ _ _ _ _ _ _ [(3, .inl x170), (0, .inr (some a0)), (1, .inl a1), (2, .inl a2)] _ _
        refine tt_goto (tgt := 2) (pc := 57) dX7_showNotes_57 (by decide) ?_
        refine tt_loc [(0, .inr (some a0)), (1, .inl a1), (2, .inl a2), (3, .inl x170)] (List.forall_mem_cons.mpr ⟨(.tail _ (.head _)), List.forall_mem_cons.mpr ⟨(.tail _ (.tail _ (.head _))), List.forall_mem_cons.mpr ⟨(.tail _ (.tail _ (.tail _ (.head _)))), List.forall_mem_cons.mpr ⟨(.head _), fun _ z => absurd z List.not_mem_nil⟩⟩⟩⟩) ?_
        exact ih2 hb hwb hfb x170 (by omega) (by omega) (by omega)
      refine tt_iload_n (pc := 2) dX7_showNotes_2 (.tail _ (.tail _ (.tail _ (.head _)))) ?_
      refine tt_aload_n (pc := 3) dX7_showNotes_3 (.head _) ?_
      refine tw_geti (pc := 4) dX7_showNotes_4 flX7_92 hwb ta0 (by decide) rfl (fun f171 x172 ef171 gf171 lx172 ux172 => ?_)
      refine tw_icmp (tgt := 60) (pc := 7) dX7_showNotes_7 (by decide) (fun (c173 : x172.toInt ≤ x168.toInt) => ?_) (fun (c173 : ¬ (x172.toInt ≤ x168.toInt)) => ?_)
      · skip
        refine tt_stop ?_
        rw [hQ]
        exact Or.inl ⟨dX7_showNotes_60, rfl, rfl, hwb, hfb, rfl⟩
      · skip
        refine tt_iload_n (pc := 10) dX7_showNotes_10 (.tail _ (.tail _ (.tail _ (.head _)))) ?_
        refine tt_iload_n (pc := 11) dX7_showNotes_11 (.tail _ (.head _)) ?_
        refine tw_icmp (tgt := 54) (pc := 12) dX7_showNotes_12 (by decide) (fun (c174 : x168.toInt = a1.toInt) => ?_) (fun (c174 : ¬ (x168.toInt = a1.toInt)) => ?_)
        · skip
          refine tt_loc [(0, .inr (some a0)), (1, .inl a1), (2, .inl a2), (3, .inl x168)] (List.forall_mem_cons.mpr ⟨(.head _), List.forall_mem_cons.mpr ⟨(.tail _ (.head _)), List.forall_mem_cons.mpr ⟨(.tail _ (.tail _ (.head _))), List.forall_mem_cons.mpr ⟨(.tail _ (.tail _ (.tail _ (.head _)))), fun _ z => absurd z List.not_mem_nil⟩⟩⟩⟩) ?_
          exact B54 hb hwb hfb x168 (by omega) (by omega) (by omega)
        · skip
          refine tt_aload_n (pc := 15) dX7_showNotes_15 (.head _) ?_
          refine tw_getr (pc := 16) dX7_showNotes_16 flX7_29 hwb ta0 (by decide) rfl (fun f175 q176 ef175 gf175 tq176 => ?_)
          refine tw_bipush (pc := 19) dX7_showNotes_19 (by decide) (fun x177 ex177 => ?_)
          refine tt_iload_n (pc := 21) dX7_showNotes_21 (.tail _ (.head _)) ?_
          refine tw_imul (c := 8) (pc := 22) dX7_showNotes_22 (by omega) (by omega) (fun x178 ex178 => ?_)
          refine tt_iload_n (pc := 23) dX7_showNotes_23 (.tail _ (.tail _ (.tail _ (.head _)))) ?_
          refine tw_iadd (pc := 24) dX7_showNotes_24 (by omega) (fun x179 ex179 => ?_)
          refine tw_ild (pc := 25) dX7_showNotes_25 hwb tq176 rfl (by omega) (by omega) (fun f181 x180 ef181 gf181 lx180 ux180 => ?_)
          refine tw_if (tgt := 54) (pc := 26) dX7_showNotes_26 (by decide) (fun (c182 : x180.toInt ≤ 0) => ?_) (fun (c182 : ¬ (x180.toInt ≤ 0)) => ?_)
          · skip
            refine tt_loc [(0, .inr (some a0)), (1, .inl a1), (2, .inl a2), (3, .inl x168)] (List.forall_mem_cons.mpr ⟨(.head _), List.forall_mem_cons.mpr ⟨(.tail _ (.head _)), List.forall_mem_cons.mpr ⟨(.tail _ (.tail _ (.head _))), List.forall_mem_cons.mpr ⟨(.tail _ (.tail _ (.tail _ (.head _)))), fun _ z => absurd z List.not_mem_nil⟩⟩⟩⟩) ?_
            exact B54 hb hwb hfb x168 (by omega) (by omega) (by omega)
          · skip
            refine tt_aload_n (pc := 29) dX7_showNotes_29 (.head _) ?_
            refine tt_iload_n (pc := 30) dX7_showNotes_30 (.tail _ (.head _)) ?_
            refine tt_iload_n (pc := 31) dX7_showNotes_31 (.tail _ (.tail _ (.head _))) ?_
            refine tw_iconst (pc := 32) dX7_showNotes_32 (by decide) (fun x183 ex183 => ?_)
            refine tt_iload_n (pc := 33) dX7_showNotes_33 (.tail _ (.tail _ (.tail _ (.head _)))) ?_
            refine tt_aload_n (pc := 34) dX7_showNotes_34 (.head _) ?_
            refine tt_get (pc := 35) dX7_showNotes_35 flX7_29 ef175 gf175 ?_
            refine tw_bipush (pc := 38) dX7_showNotes_38 (by decide) (fun x184 ex184 => ?_)
            refine tt_iload_n (pc := 40) dX7_showNotes_40 (.tail _ (.head _)) ?_
            refine tw_imul (c := 8) (pc := 41) dX7_showNotes_41 (by omega) (by omega) (fun x185 ex185 => ?_)
            refine tt_iload_n (pc := 42) dX7_showNotes_42 (.tail _ (.tail _ (.tail _ (.head _)))) ?_
            refine tw_iadd (pc := 43) dX7_showNotes_43 (by omega) (fun x186 ex186 => ?_)
            refine tw_ild (pc := 44) dX7_showNotes_44 hwb tq176 rfl (by omega) (by omega) (fun f188 x187 ef188 gf188 lx187 ux187 => ?_)
            refine tt_aload_n (pc := 45) dX7_showNotes_45 (.head _) ?_
            refine tt_iload_n (pc := 46) dX7_showNotes_46 (.tail _ (.head _)) ?_
            refine tt_iload_n (pc := 47) dX7_showNotes_47 (.tail _ (.tail _ (.tail _ (.head _)))) ?_
            refine tw_callV (kc := 0) (ks := 0) (mc := 0) (ms := 0) (as := [.inl a1, .inl x168]) (st := [.inl x187, .inl x168, .inl x183, .inl a2, .inl a1, .inr (some a0)]) (pc := 48) hwb ta0 (by decide) dX7_showNotes_48 lkX7_117 imX7_bodyOf seX7_bodyOf rfl rfl (by decide) (by decide) (Nat.le_of_ble_eq_true rfl) (g_X7_bodyOf hN2 hN8 hp0 hp64 hwb a0 ta0 a1 (by omega) (by omega) x168 (by omega) (by omega)) (fun rv h189 qh189 => ?_)
            obtain ⟨rfl, x190, rfl, lx190, ux190⟩ := qh189
            show TT _ _ _ _ _ _ _ _ [.inl x190, .inl x187, .inl x168, .inl x183, .inl a2, .inl a1, .inr (some a0)] _
            refine tw_callV (kc := 0) (ks := 0) (mc := 0) (ms := 0) (as := [.inl a1, .inl a2, .inl x183, .inl x168, .inl x187, .inl x190]) (st := []) (pc := 51) hwb ta0 (by decide) dX7_showNotes_51 lkX7_113 imX7_send seX7_send rfl rfl (by decide) (by decide) (Nat.le_of_ble_eq_true rfl) (g_X7_sendA hN2 hN8 hp0 hp64 hwb a0 ta0 a1 (by omega) (by omega) a2 (by omega) (by omega) x183 (by omega) (by omega) x168 (by omega) (by omega) x187 x190) (fun rv h191 qh191 => ?_)
            obtain ⟨wh191, fh191, rfl⟩ := qh191
            have hfh191 := hfb.tr fh191
            show TT _ _ _ _ _ _ _ _ [] _
            refine tt_loc [(0, .inr (some a0)), (1, .inl a1), (2, .inl a2), (3, .inl x168)] (List.forall_mem_cons.mpr ⟨(.head _), List.forall_mem_cons.mpr ⟨(.tail _ (.head _)), List.forall_mem_cons.mpr ⟨(.tail _ (.tail _ (.head _))), List.forall_mem_cons.mpr ⟨(.tail _ (.tail _ (.tail _ (.head _)))), fun _ z => absurd z List.not_mem_nil⟩⟩⟩⟩) ?_
            exact B54 h191 wh191 hfh191 x168 (by omega) (by omega) (by omega)
  refine tw_iconst (pc := 0) dX7_showNotes_0 (by decide) (fun x192 ex192 => ?_)
  refine tt_istore_n (pc := 1) dX7_showNotes_1 (by decide) ?_
  show TT _ _ _ _ _ _ _ [(3, .inl x192), (0, .inr (some a0)), (1, .inl a1), (2, .inl a2)] _ _
  refine tt_loc [(0, .inr (some a0)), (1, .inl a1), (2, .inl a2), (3, .inl x192)] (List.forall_mem_cons.mpr ⟨(.tail _ (.head _)), List.forall_mem_cons.mpr ⟨(.tail _ (.tail _ (.head _))), List.forall_mem_cons.mpr ⟨(.tail _ (.tail _ (.tail _ (.head _)))), List.forall_mem_cons.mpr ⟨(.head _), fun _ z => absurd z List.not_mem_nil⟩⟩⟩⟩) ?_
  exact B2 9 h hw hf x192 (by omega) (by omega) (by omega)
abbrev mX7_showMappings : tM := (RX7, cX7_showMappings, 4, 2, 54, false)
set_option maxHeartbeats 4000000 in
theorem g_X7_showMappings {l : Launch} {D : va_G} {N : Nat} {pk : Int} {τ : List Nat} (hN2 : 2 ≤ N) (hN8 : N ≤ 8) (hp0 : 0 ≤ pk) (hp64 : pk ≤ 64) {h : List tC} (hw : WT N pk τ h) (a0 : Nat) (ta0 : τ[a0]? = some 7) (a1 : Int32) (la1 : 0 ≤ a1.toInt) (ua1 : a1.toInt ≤ 7) (a2 : Int32) (la2 : 0 ≤ a2.toInt) (ua2 : a2.toInt ≤ 11) : TMc l D yX7_showMappings cX7_showMappings 4 none 2 54 0 0 [.inr (some a0), .inl a1, .inl a2] h (fun rv h' => WT N pk τ h' ∧ Fr PMk τ h h' ∧ rv = none) := by
  refine tmc_of false rfl (by decide) (Nat.le_of_ble_eq_true rfl) ?_
  suffices HQ : ∀ Q0, Q0 = tRt cX7_showMappings none (fun rv h' => WT N pk τ h' ∧ Fr PMk τ h h' ∧ rv = none) → TT l D mX7_showMappings Q0 0 0 0 [(0, .inr (some a0)), (1, .inl a1), (2, .inl a2)] [] h from HQ _ rfl
  intro Q0 hQ
  have hf : Fr PMk τ h h := Fr.rf
  have B2 : ∀ (n2 : Nat) (hb : List tC) (hwb : WT N pk τ hb) (hfb : Fr PMk τ h hb) (x196 : Int32) (lx196 : 0 ≤ x196.toInt) (ux196 : x196.toInt ≤ 8), 8 - x196.toInt < n2 → TT l D mX7_showMappings Q0 0 0 2 [(0, .inr (some a0)), (1, .inl a1), (2, .inl a2), (3, .inl x196)] [] hb := by
    intro n2
    induction n2 with
    | zero =>
      intro hb hwb hfb x196 lx196 ux196 hn2
      exfalso
      omega
    | succ n2 ih2 =>
      intro hb hwb hfb x196 lx196 ux196 hn2
      have B53 : ∀ (hb : List tC) (hwb : WT N pk τ hb) (hfb : Fr PMk τ h hb) (x197 : Int32) (lx197 : 0 ≤ x197.toInt) (ux197 : x197.toInt ≤ 7) (hn2 : 8 - x197.toInt < ((n2 + 1 : Nat) : Int)), TT l D mX7_showMappings Q0 0 0 53 [(0, .inr (some a0)), (1, .inl a1), (2, .inl a2), (3, .inl x197)] [] hb := by
        intro hb hwb hfb x197 lx197 ux197 hn2
        refine tw_iinc (pc := 53) dX7_showMappings_53 (.tail _ (.tail _ (.tail _ (.head _)))) (by decide) (by decide) (by omega) (fun x198 ex198 => ?_)
        show TT _ _ _ _ _ _ _ [(3, .inl x198), (0, .inr (some a0)), (1, .inl a1), (2, .inl a2)] _ _
        refine tt_goto (tgt := 2) (pc := 56) dX7_showMappings_56 (by decide) ?_
        refine tt_loc [(0, .inr (some a0)), (1, .inl a1), (2, .inl a2), (3, .inl x198)] (List.forall_mem_cons.mpr ⟨(.tail _ (.head _)), List.forall_mem_cons.mpr ⟨(.tail _ (.tail _ (.head _))), List.forall_mem_cons.mpr ⟨(.tail _ (.tail _ (.tail _ (.head _)))), List.forall_mem_cons.mpr ⟨(.head _), fun _ z => absurd z List.not_mem_nil⟩⟩⟩⟩) ?_
        exact ih2 hb hwb hfb x198 (by omega) (by omega) (by omega)
      refine tt_iload_n (pc := 2) dX7_showMappings_2 (.tail _ (.tail _ (.tail _ (.head _)))) ?_
      refine tw_bipush (pc := 3) dX7_showMappings_3 (by decide) (fun x199 ex199 => ?_)
      refine tw_icmp (tgt := 59) (pc := 5) dX7_showMappings_5 (by decide) (fun (c200 : x199.toInt ≤ x196.toInt) => ?_) (fun (c200 : ¬ (x199.toInt ≤ x196.toInt)) => ?_)
      · skip
        refine tt_stop ?_
        rw [hQ]
        exact Or.inl ⟨dX7_showMappings_59, rfl, rfl, hwb, hfb, rfl⟩
      · skip
        refine tt_aload_n (pc := 8) dX7_showMappings_8 (.head _) ?_
        refine tw_getr (pc := 9) dX7_showMappings_9 flX7_62 hwb ta0 (by decide) rfl (fun f201 q202 ef201 gf201 tq202 => ?_)
        refine tw_bipush (pc := 12) dX7_showMappings_12 (by decide) (fun x203 ex203 => ?_)
        refine tt_iload_n (pc := 14) dX7_showMappings_14 (.tail _ (.head _)) ?_
        refine tw_imul (c := 8) (pc := 15) dX7_showMappings_15 (by omega) (by omega) (fun x204 ex204 => ?_)
        refine tt_iload_n (pc := 16) dX7_showMappings_16 (.tail _ (.tail _ (.tail _ (.head _)))) ?_
        refine tw_iadd (pc := 17) dX7_showMappings_17 (by omega) (fun x205 ex205 => ?_)
        refine tw_ild (pc := 18) dX7_showMappings_18 hwb tq202 rfl (by omega) (by omega) (fun f207 x206 ef207 gf207 lx206 ux206 => ?_)
        refine tw_iconst (pc := 19) dX7_showMappings_19 (by decide) (fun x208 ex208 => ?_)
        refine tw_icmp (tgt := 53) (pc := 20) dX7_showMappings_20 (by decide) (fun (c209 : x206.toInt = x208.toInt) => ?_) (fun (c209 : ¬ (x206.toInt = x208.toInt)) => ?_)
        · skip
          refine tt_loc [(0, .inr (some a0)), (1, .inl a1), (2, .inl a2), (3, .inl x196)] (List.forall_mem_cons.mpr ⟨(.head _), List.forall_mem_cons.mpr ⟨(.tail _ (.head _)), List.forall_mem_cons.mpr ⟨(.tail _ (.tail _ (.head _))), List.forall_mem_cons.mpr ⟨(.tail _ (.tail _ (.tail _ (.head _)))), fun _ z => absurd z List.not_mem_nil⟩⟩⟩⟩) ?_
          exact B53 hb hwb hfb x196 (by omega) (by omega) (by omega)
        · skip
          refine tt_aload_n (pc := 23) dX7_showMappings_23 (.head _) ?_
          refine tt_iload_n (pc := 24) dX7_showMappings_24 (.tail _ (.head _)) ?_
          refine tt_iload_n (pc := 25) dX7_showMappings_25 (.tail _ (.tail _ (.head _))) ?_
          refine tw_iconst (pc := 26) dX7_showMappings_26 (by decide) (fun x210 ex210 => ?_)
          refine tt_iload_n (pc := 27) dX7_showMappings_27 (.tail _ (.tail _ (.tail _ (.head _)))) ?_
          refine tt_aload_n (pc := 28) dX7_showMappings_28 (.head _) ?_
          refine tt_get (pc := 29) dX7_showMappings_29 flX7_62 ef201 gf201 ?_
          refine tw_bipush (pc := 32) dX7_showMappings_32 (by decide) (fun x211 ex211 => ?_)
          refine tt_iload_n (pc := 34) dX7_showMappings_34 (.tail _ (.head _)) ?_
          refine tw_imul (c := 8) (pc := 35) dX7_showMappings_35 (by omega) (by omega) (fun x212 ex212 => ?_)
          refine tt_iload_n (pc := 36) dX7_showMappings_36 (.tail _ (.tail _ (.tail _ (.head _)))) ?_
          refine tw_iadd (pc := 37) dX7_showMappings_37 (by omega) (fun x213 ex213 => ?_)
          refine tw_ild (pc := 38) dX7_showMappings_38 hwb tq202 rfl (by omega) (by omega) (fun f215 x214 ef215 gf215 lx214 ux214 => ?_)
          refine tt_aload_n (pc := 39) dX7_showMappings_39 (.head _) ?_
          refine tw_getr (pc := 40) dX7_showMappings_40 flX7_65 hwb ta0 (by decide) rfl (fun f216 q217 ef216 gf216 tq217 => ?_)
          refine tw_bipush (pc := 43) dX7_showMappings_43 (by decide) (fun x218 ex218 => ?_)
          refine tt_iload_n (pc := 45) dX7_showMappings_45 (.tail _ (.head _)) ?_
          refine tw_imul (c := 8) (pc := 46) dX7_showMappings_46 (by omega) (by omega) (fun x219 ex219 => ?_)
          refine tt_iload_n (pc := 47) dX7_showMappings_47 (.tail _ (.tail _ (.tail _ (.head _)))) ?_
          refine tw_iadd (pc := 48) dX7_showMappings_48 (by omega) (fun x220 ex220 => ?_)
          refine tw_ild (pc := 49) dX7_showMappings_49 hwb tq217 rfl (by omega) (by omega) (fun f222 x221 ef222 gf222 lx221 ux221 => ?_)
          refine tw_callV (kc := 0) (ks := 0) (mc := 0) (ms := 0) (as := [.inl a1, .inl a2, .inl x210, .inl x196, .inl x214, .inl x221]) (st := []) (pc := 50) hwb ta0 (by decide) dX7_showMappings_50 lkX7_113 imX7_send seX7_send rfl rfl (by decide) (by decide) (Nat.le_of_ble_eq_true rfl) (g_X7_sendB hN2 hN8 hp0 hp64 hwb a0 ta0 a1 (by omega) (by omega) a2 (by omega) (by omega) x210 (by omega) (by omega) x196 (by omega) (by omega) x214 (by omega) (by omega) x221) (fun rv h223 qh223 => ?_)
          obtain ⟨wh223, fh223, rfl⟩ := qh223
          have hfh223 := hfb.tr fh223
          show TT _ _ _ _ _ _ _ _ [] _
          refine tt_loc [(0, .inr (some a0)), (1, .inl a1), (2, .inl a2), (3, .inl x196)] (List.forall_mem_cons.mpr ⟨(.head _), List.forall_mem_cons.mpr ⟨(.tail _ (.head _)), List.forall_mem_cons.mpr ⟨(.tail _ (.tail _ (.head _))), List.forall_mem_cons.mpr ⟨(.tail _ (.tail _ (.tail _ (.head _)))), fun _ z => absurd z List.not_mem_nil⟩⟩⟩⟩) ?_
          exact B53 h223 wh223 hfh223 x196 (by omega) (by omega) (by omega)
  refine tw_iconst (pc := 0) dX7_showMappings_0 (by decide) (fun x224 ex224 => ?_)
  refine tt_istore_n (pc := 1) dX7_showMappings_1 (by decide) ?_
  show TT _ _ _ _ _ _ _ [(3, .inl x224), (0, .inr (some a0)), (1, .inl a1), (2, .inl a2)] _ _
  refine tt_loc [(0, .inr (some a0)), (1, .inl a1), (2, .inl a2), (3, .inl x224)] (List.forall_mem_cons.mpr ⟨(.tail _ (.head _)), List.forall_mem_cons.mpr ⟨(.tail _ (.tail _ (.head _))), List.forall_mem_cons.mpr ⟨(.tail _ (.tail _ (.tail _ (.head _)))), List.forall_mem_cons.mpr ⟨(.head _), fun _ z => absurd z List.not_mem_nil⟩⟩⟩⟩) ?_
  exact B2 9 h hw hf x224 (by omega) (by omega) (by omega)
