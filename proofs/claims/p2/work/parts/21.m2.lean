abbrev mX4_forgetDistances : tM := (RX4, cX4_forgetDistances, 3, 0, 0, false)
set_option maxHeartbeats 4000000 in
theorem g_X4_forgetDistances {l : Launch} {D : va_G} {N : Nat} {pk : Int} {τ : List Nat} (hN2 : 2 ≤ N) (hN8 : N ≤ 8) (hp0 : 0 ≤ pk) (hp64 : pk ≤ 64) {h : List tC} (hw : WT N pk τ h) (a0 : Nat) (ta0 : τ[a0]? = some 4) : TMc l D yX4_forgetDistances cX4_forgetDistances 3 none 0 0 0 0 [.inr (some a0)] h (fun rv h' => WT N pk τ h' ∧ Fr PX τ h h' ∧ rv = none) := by
  refine tmc_of false rfl (by decide) (Nat.le_of_ble_eq_true rfl) ?_
  suffices HQ : ∀ Q0, Q0 = tRt cX4_forgetDistances none (fun rv h' => WT N pk τ h' ∧ Fr PX τ h h' ∧ rv = none) → TT l D mX4_forgetDistances Q0 0 0 0 [(0, .inr (some a0))] [] h from HQ _ rfl
  intro Q0 hQ
  have hf : Fr PX τ h h := Fr.rf
  have B2 : ∀ (n2 : Nat) (hb : List tC) (hwb : WT N pk τ hb) (hfb : Fr PX τ h hb) (q255 : Nat) (tq255 : τ[q255]? = some 4) (x256 : Int32) (lx256 : 0 ≤ x256.toInt) (ux256 : x256.toInt ≤ 8), 8 - x256.toInt < n2 → TT l D mX4_forgetDistances Q0 0 0 2 [(0, .inr (some q255)), (1, .inl x256)] [] hb := by
    intro n2
    induction n2 with
    | zero =>
      intro hb hwb hfb q255 tq255 x256 lx256 ux256 hn2
      exfalso
      omega
    | succ n2 ih2 =>
      intro hb hwb hfb q255 tq255 x256 lx256 ux256 hn2
      have B10 : ∀ (n10 : Nat) (hb : List tC) (hwb : WT N pk τ hb) (hfb : Fr PX τ h hb) (q257 : Nat) (tq257 : τ[q257]? = some 4) (x258 : Int32) (lx258 : 0 ≤ x258.toInt) (ux258 : x258.toInt ≤ 7) (x259 : Int32) (lx259 : 0 ≤ x259.toInt) (ux259 : x259.toInt ≤ 8) (hn2 : 8 - x258.toInt < ((n2 + 1 : Nat) : Int)), 8 - x259.toInt < n10 → TT l D mX4_forgetDistances Q0 0 0 10 [(0, .inr (some q257)), (1, .inl x258), (2, .inl x259)] [] hb := by
        intro n10
        induction n10 with
        | zero =>
          intro hb hwb hfb q257 tq257 x258 lx258 ux258 x259 lx259 ux259 hn2 hn10
          exfalso
          omega
        | succ n10 ih10 =>
          intro hb hwb hfb q257 tq257 x258 lx258 ux258 x259 lx259 ux259 hn2 hn10
          refine tt_iload_n (pc := 10) dX4_forgetDistances_10 (.tail _ (.tail _ (.head _))) ?_
          refine tw_bipush (pc := 11) dX4_forgetDistances_11 (by decide) (fun x260 ex260 => ?_)
          refine tw_icmp (tgt := 41) (pc := 13) dX4_forgetDistances_13 (by decide) (fun (c261 : x260.toInt ≤ x259.toInt) => ?_) (fun (c261 : ¬ (x260.toInt ≤ x259.toInt)) => ?_)
          · skip
            refine tw_iinc (pc := 41) dX4_forgetDistances_41 (.tail _ (.head _)) (by decide) (by decide) (by omega) (fun x262 ex262 => ?_)
            show TT _ _ _ _ _ _ _ [(1, .inl x262), (0, .inr (some q257)), (2, .inl x259)] _ _
            refine tt_goto (tgt := 2) (pc := 44) dX4_forgetDistances_44 (by decide) ?_
            refine tt_loc [(0, .inr (some q257)), (1, .inl x262)] (List.forall_mem_cons.mpr ⟨(.tail _ (.head _)), List.forall_mem_cons.mpr ⟨(.head _), fun _ z => absurd z List.not_mem_nil⟩⟩) ?_
            exact ih2 hb hwb hfb q257 tq257 x262 (by omega) (by omega) (by omega)
          · skip
            refine tt_aload_n (pc := 16) dX4_forgetDistances_16 (.head _) ?_
            refine tw_getr (pc := 17) dX4_forgetDistances_17 flX4_19 hwb tq257 (by decide) rfl (fun f263 q264 ef263 gf263 tq264 => ?_)
            refine tt_iload_n (pc := 20) dX4_forgetDistances_20 (.tail _ (.head _)) ?_
            refine tw_ald (pc := 21) dX4_forgetDistances_21 hwb tq264 rfl (by decide) (by omega) (by omega) (fun f265 q266 ef265 gf265 tq266 => ?_)
            refine tt_iload_n (pc := 22) dX4_forgetDistances_22 (.tail _ (.tail _ (.head _))) ?_
            refine tt_iload_n (pc := 23) dX4_forgetDistances_23 (.tail _ (.head _)) ?_
            refine tt_iload_n (pc := 24) dX4_forgetDistances_24 (.tail _ (.tail _ (.head _))) ?_
            refine tw_icmp (tgt := 32) (pc := 25) dX4_forgetDistances_25 (by decide) (fun (c267 : x258.toInt ≠ x259.toInt) => ?_) (fun (c267 : ¬ (x258.toInt ≠ x259.toInt)) => ?_)
            · skip
              refine tw_ldc (n := 1000000) (pc := 32) dX4_forgetDistances_32 rfl kcX4_58 (by decide) (fun x268 ex268 => ?_)
              refine tw_ist (P := PX) (pc := 34) dX4_forgetDistances_34 hwb tq266 rfl (by omega) (by omega) (by omega) (by omega) (by decide) (fun f269 h270 eh270 gh270 kh270 wh270 fh270 => ?_)
              have hfh270 := hfb.tr fh270
              refine tw_iinc (pc := 35) dX4_forgetDistances_35 (.tail _ (.tail _ (.head _))) (by decide) (by decide) (by omega) (fun x271 ex271 => ?_)
              show TT _ _ _ _ _ _ _ [(2, .inl x271), (0, .inr (some q257)), (1, .inl x258)] _ _
              refine tt_goto (tgt := 10) (pc := 38) dX4_forgetDistances_38 (by decide) ?_
              refine tt_loc [(0, .inr (some q257)), (1, .inl x258), (2, .inl x271)] (List.forall_mem_cons.mpr ⟨(.tail _ (.head _)), List.forall_mem_cons.mpr ⟨(.tail _ (.tail _ (.head _))), List.forall_mem_cons.mpr ⟨(.head _), fun _ z => absurd z List.not_mem_nil⟩⟩⟩) ?_
              exact ih10 h270 wh270 hfh270 q257 tq257 x258 (by omega) (by omega) x271 (by omega) (by omega) (by omega) (by omega)
            · skip
              refine tw_iconst (pc := 28) dX4_forgetDistances_28 (by decide) (fun x272 ex272 => ?_)
              refine tt_goto (tgt := 34) (pc := 29) dX4_forgetDistances_29 (by decide) ?_
              refine tw_ist (P := PX) (pc := 34) dX4_forgetDistances_34 hwb tq266 rfl (by omega) (by omega) (by omega) (by omega) (by decide) (fun f273 h274 eh274 gh274 kh274 wh274 fh274 => ?_)
              have hfh274 := hfb.tr fh274
              refine tw_iinc (pc := 35) dX4_forgetDistances_35 (.tail _ (.tail _ (.head _))) (by decide) (by decide) (by omega) (fun x275 ex275 => ?_)
              show TT _ _ _ _ _ _ _ [(2, .inl x275), (0, .inr (some q257)), (1, .inl x258)] _ _
              refine tt_goto (tgt := 10) (pc := 38) dX4_forgetDistances_38 (by decide) ?_
              refine tt_loc [(0, .inr (some q257)), (1, .inl x258), (2, .inl x275)] (List.forall_mem_cons.mpr ⟨(.tail _ (.head _)), List.forall_mem_cons.mpr ⟨(.tail _ (.tail _ (.head _))), List.forall_mem_cons.mpr ⟨(.head _), fun _ z => absurd z List.not_mem_nil⟩⟩⟩) ?_
              exact ih10 h274 wh274 hfh274 q257 tq257 x258 (by omega) (by omega) x275 (by omega) (by omega) (by omega) (by omega)
      refine tt_iload_n (pc := 2) dX4_forgetDistances_2 (.tail _ (.head _)) ?_
      refine tw_bipush (pc := 3) dX4_forgetDistances_3 (by decide) (fun x276 ex276 => ?_)
      refine tw_icmp (tgt := 47) (pc := 5) dX4_forgetDistances_5 (by decide) (fun (c277 : x276.toInt ≤ x256.toInt) => ?_) (fun (c277 : ¬ (x276.toInt ≤ x256.toInt)) => ?_)
      · skip
        refine tt_stop ?_
        rw [hQ]
        exact Or.inl ⟨dX4_forgetDistances_47, rfl, rfl, hwb, hfb, rfl⟩
      · skip
        refine tw_iconst (pc := 8) dX4_forgetDistances_8 (by decide) (fun x278 ex278 => ?_)
        refine tt_istore_n (pc := 9) dX4_forgetDistances_9 (by decide) ?_
        show TT _ _ _ _ _ _ _ [(2, .inl x278), (0, .inr (some q255)), (1, .inl x256)] _ _
        refine tt_loc [(0, .inr (some q255)), (1, .inl x256), (2, .inl x278)] (List.forall_mem_cons.mpr ⟨(.tail _ (.head _)), List.forall_mem_cons.mpr ⟨(.tail _ (.tail _ (.head _))), List.forall_mem_cons.mpr ⟨(.head _), fun _ z => absurd z List.not_mem_nil⟩⟩⟩) ?_
        exact B10 9 hb hwb hfb q255 tq255 x256 (by omega) (by omega) x278 (by omega) (by omega) (by omega) (by omega)
  refine tw_iconst (pc := 0) dX4_forgetDistances_0 (by decide) (fun x279 ex279 => ?_)
  refine tt_istore_n (pc := 1) dX4_forgetDistances_1 (by decide) ?_
  show TT _ _ _ _ _ _ _ [(1, .inl x279), (0, .inr (some a0))] _ _
  refine tt_loc [(0, .inr (some a0)), (1, .inl x279)] (List.forall_mem_cons.mpr ⟨(.tail _ (.head _)), List.forall_mem_cons.mpr ⟨(.head _), fun _ z => absurd z List.not_mem_nil⟩⟩) ?_
  exact B2 9 h hw hf a0 ta0 x279 (by omega) (by omega) (by omega)
abbrev mX4_takeStep : tM := (RX4, cX4_takeStep, 5, 1, 21, false)
set_option maxHeartbeats 4000000 in
theorem g_X4_takeStep {l : Launch} {D : va_G} {N : Nat} {pk : Int} {τ : List Nat} (hN2 : 2 ≤ N) (hN8 : N ≤ 8) (hp0 : 0 ≤ pk) (hp64 : pk ≤ 64) {h : List tC} (hw : WT N pk τ h) (a0 : Nat) (ta0 : τ[a0]? = some 4) (a1 : Int32) (la1 : 0 ≤ a1.toInt) (ua1 : a1.toInt ≤ 7) (a2 : Int32) (la2 : 0 ≤ a2.toInt) (ua2 : a2.toInt ≤ 7) (a3 : Int32) : TMc l D yX4_takeStep cX4_takeStep 5 none 1 21 0 0 [.inr (some a0), .inl a1, .inl a2, .inl a3] h (fun rv h' => WT N pk τ h' ∧ Fr PX τ h h' ∧ rv = none) := by
  refine tmc_of false rfl (by decide) (Nat.le_of_ble_eq_true rfl) ?_
  suffices HQ : ∀ Q0, Q0 = tRt cX4_takeStep none (fun rv h' => WT N pk τ h' ∧ Fr PX τ h h' ∧ rv = none) → TT l D mX4_takeStep Q0 0 0 0 [(0, .inr (some a0)), (1, .inl a1), (2, .inl a2), (3, .inl a3)] [] h from HQ _ rfl
  intro Q0 hQ
  have hf : Fr PX τ h h := Fr.rf
  have ba3 := i_ty a3
  refine tt_aload_n (pc := 0) dX4_takeStep_0 (.head _) ?_
  refine tw_getr (pc := 1) dX4_takeStep_1 flX4_19 hw ta0 (by decide) rfl (fun f16 q17 ef16 gf16 tq17 => ?_)
  refine tt_iload_n (pc := 4) dX4_takeStep_4 (.tail _ (.head _)) ?_
  refine tw_ald (pc := 5) dX4_takeStep_5 hw tq17 rfl (by decide) (by omega) (by omega) (fun f18 q19 ef18 gf18 tq19 => ?_)
  refine tt_iload_n (pc := 6) dX4_takeStep_6 (.tail _ (.tail _ (.head _))) ?_
  refine tw_ild (pc := 7) dX4_takeStep_7 hw tq19 rfl (by omega) (by omega) (fun f21 x20 ef21 gf21 lx20 ux20 => ?_)
  refine tt_iload_n (pc := 8) dX4_takeStep_8 (.tail _ (.tail _ (.tail _ (.head _)))) ?_
  refine tt_min (pc := 9) dX4_takeStep_9 mlX4_59 ms_min mi_math mc_min (by decide) (Nat.le_of_ble_eq_true rfl) ?_
  refine tw_minv (fun x22 ex22 => ?_)
  refine tt_istore (pc := 12) dX4_takeStep_12 (by decide) ?_
  show TT _ _ _ _ _ _ _ [(4, .inl x22), (0, .inr (some a0)), (1, .inl a1), (2, .inl a2), (3, .inl a3)] _ _
  refine tt_aload_n (pc := 14) dX4_takeStep_14 (.tail _ (.head _)) ?_
  refine tt_get (pc := 15) dX4_takeStep_15 flX4_19 ef16 gf16 ?_
  refine tt_iload_n (pc := 18) dX4_takeStep_18 (.tail _ (.tail _ (.head _))) ?_
  refine tt_aald (pc := 19) dX4_takeStep_19 ef18 (by decide) (i_nn (by omega)) gf18 ?_
  refine tt_iload_n (pc := 20) dX4_takeStep_20 (.tail _ (.tail _ (.tail _ (.head _)))) ?_
  refine tt_iload (pc := 21) dX4_takeStep_21 (.head _) ?_
  refine tw_ist (P := PX) (pc := 23) dX4_takeStep_23 hw tq19 rfl (by omega) (by omega) (by omega) (by omega) (by decide) (fun f23 h24 eh24 gh24 kh24 wh24 fh24 => ?_)
  have hfh24 := hf.tr fh24
  refine tt_aload_n (pc := 24) dX4_takeStep_24 (.tail _ (.head _)) ?_
  refine tw_getr (pc := 25) dX4_takeStep_25 flX4_19 wh24 ta0 (by decide) rfl (fun f25 q26 ef25 gf25 tq26 => ?_)
  refine tt_iload_n (pc := 28) dX4_takeStep_28 (.tail _ (.tail _ (.tail _ (.head _)))) ?_
  refine tw_ald (pc := 29) dX4_takeStep_29 wh24 tq26 rfl (by decide) (by omega) (by omega) (fun f27 q28 ef27 gf27 tq28 => ?_)
  refine tt_iload_n (pc := 30) dX4_takeStep_30 (.tail _ (.tail _ (.head _))) ?_
  refine tt_iload (pc := 31) dX4_takeStep_31 (.head _) ?_
  refine tw_ist (P := PX) (pc := 33) dX4_takeStep_33 wh24 tq28 rfl (by omega) (by omega) (by omega) (by omega) (by decide) (fun f29 h30 eh30 gh30 kh30 wh30 fh30 => ?_)
  have hfh30 := hfh24.tr fh30
  refine tt_stop ?_
  rw [hQ]
  exact Or.inl ⟨dX4_takeStep_34, rfl, rfl, wh30, hfh30, rfl⟩
abbrev mX4_joinAt : tM := (RX4, cX4_joinAt, 4, 1, 21, false)
set_option maxHeartbeats 4000000 in
theorem g_X4_joinAt {l : Launch} {D : va_G} {N : Nat} {pk : Int} {τ : List Nat} (hN2 : 2 ≤ N) (hN8 : N ≤ 8) (hp0 : 0 ≤ pk) (hp64 : pk ≤ 64) {h : List tC} (hw : WT N pk τ h) (a0 : Nat) (ta0 : τ[a0]? = some 4) (a1 : Int32) (la1 : 0 ≤ a1.toInt) (ua1 : a1.toInt ≤ 7) (a2 : Int32) (la2 : 0 ≤ a2.toInt) (ua2 : a2.toInt ≤ 7) : TMc l D yX4_joinAt cX4_joinAt 4 none 1 21 0 0 [.inr (some a0), .inl a1, .inl a2] h (fun rv h' => WT N pk τ h' ∧ Fr PX τ h h' ∧ rv = none) := by
  refine tmc_of false rfl (by decide) (Nat.le_of_ble_eq_true rfl) ?_
  suffices HQ : ∀ Q0, Q0 = tRt cX4_joinAt none (fun rv h' => WT N pk τ h' ∧ Fr PX τ h h' ∧ rv = none) → TT l D mX4_joinAt Q0 0 0 0 [(0, .inr (some a0)), (1, .inl a1), (2, .inl a2)] [] h from HQ _ rfl
  intro Q0 hQ
  have hf : Fr PX τ h h := Fr.rf
  have B2 : ∀ (n2 : Nat) (hb : List tC) (hwb : WT N pk τ hb) (hfb : Fr PX τ h hb) (q163 : Nat) (tq163 : τ[q163]? = some 4) (x164 : Int32) (lx164 : 0 ≤ x164.toInt) (ux164 : x164.toInt ≤ 7) (x165 : Int32) (lx165 : 0 ≤ x165.toInt) (ux165 : x165.toInt ≤ 7) (x166 : Int32) (lx166 : 0 ≤ x166.toInt) (ux166 : x166.toInt ≤ 8), 8 - x166.toInt < n2 → TT l D mX4_joinAt Q0 0 0 2 [(0, .inr (some q163)), (1, .inl x164), (2, .inl x165), (3, .inl x166)] [] hb := by
    intro n2
    induction n2 with
    | zero =>
      intro hb hwb hfb q163 tq163 x164 lx164 ux164 x165 lx165 ux165 x166 lx166 ux166 hn2
      exfalso
      omega
    | succ n2 ih2 =>
      intro hb hwb hfb q163 tq163 x164 lx164 ux164 x165 lx165 ux165 x166 lx166 ux166 hn2
      refine tt_iload_n (pc := 2) dX4_joinAt_2 (.tail _ (.tail _ (.tail _ (.head _)))) ?_
      refine tw_bipush (pc := 3) dX4_joinAt_3 (by decide) (fun x167 ex167 => ?_)
      refine tw_icmp (tgt := 50) (pc := 5) dX4_joinAt_5 (by decide) (fun (c168 : x167.toInt ≤ x166.toInt) => ?_) (fun (c168 : ¬ (x167.toInt ≤ x166.toInt)) => ?_)
      · skip
        refine tt_stop ?_
        rw [hQ]
        exact Or.inl ⟨dX4_joinAt_50, rfl, rfl, hwb, hfb, rfl⟩
      · skip
        refine tt_aload_n (pc := 8) dX4_joinAt_8 (.head _) ?_
        refine tw_getr (pc := 9) dX4_joinAt_9 flX4_19 hwb tq163 (by decide) rfl (fun f169 q170 ef169 gf169 tq170 => ?_)
        refine tt_iload_n (pc := 12) dX4_joinAt_12 (.tail _ (.head _)) ?_
        refine tw_ald (pc := 13) dX4_joinAt_13 hwb tq170 rfl (by decide) (by omega) (by omega) (fun f171 q172 ef171 gf171 tq172 => ?_)
        refine tt_iload_n (pc := 14) dX4_joinAt_14 (.tail _ (.tail _ (.tail _ (.head _)))) ?_
        refine tt_aload_n (pc := 15) dX4_joinAt_15 (.head _) ?_
        refine tt_get (pc := 16) dX4_joinAt_16 flX4_19 ef169 gf169 ?_
        refine tt_iload_n (pc := 19) dX4_joinAt_19 (.tail _ (.head _)) ?_
        refine tt_aald (pc := 20) dX4_joinAt_20 ef171 (by decide) (i_nn (by omega)) gf171 ?_
        refine tt_iload_n (pc := 21) dX4_joinAt_21 (.tail _ (.tail _ (.tail _ (.head _)))) ?_
        refine tw_ild (pc := 22) dX4_joinAt_22 hwb tq172 rfl (by omega) (by omega) (fun f174 x173 ef174 gf174 lx173 ux173 => ?_)
        refine tt_aload_n (pc := 23) dX4_joinAt_23 (.head _) ?_
        refine tt_get (pc := 24) dX4_joinAt_24 flX4_19 ef169 gf169 ?_
        refine tt_iload_n (pc := 27) dX4_joinAt_27 (.tail _ (.head _)) ?_
        refine tt_aald (pc := 28) dX4_joinAt_28 ef171 (by decide) (i_nn (by omega)) gf171 ?_
        refine tt_iload_n (pc := 29) dX4_joinAt_29 (.tail _ (.tail _ (.head _))) ?_
        refine tw_ild (pc := 30) dX4_joinAt_30 hwb tq172 rfl (by omega) (by omega) (fun f176 x175 ef176 gf176 lx175 ux175 => ?_)
        refine tt_aload_n (pc := 31) dX4_joinAt_31 (.head _) ?_
        refine tt_get (pc := 32) dX4_joinAt_32 flX4_19 ef169 gf169 ?_
        refine tt_iload_n (pc := 35) dX4_joinAt_35 (.tail _ (.tail _ (.head _))) ?_
        refine tw_ald (pc := 36) dX4_joinAt_36 hwb tq170 rfl (by decide) (by omega) (by omega) (fun f177 q178 ef177 gf177 tq178 => ?_)
        refine tt_iload_n (pc := 37) dX4_joinAt_37 (.tail _ (.tail _ (.tail _ (.head _)))) ?_
        refine tw_ild (pc := 38) dX4_joinAt_38 hwb tq178 rfl (by omega) (by omega) (fun f180 x179 ef180 gf180 lx179 ux179 => ?_)
        refine tt_iadd (pc := 39) dX4_joinAt_39 ?_
        refine tw_any (fun x181 => ?_)
        have bx181 := i_ty x181
        refine tt_min (pc := 40) dX4_joinAt_40 mlX4_59 ms_min mi_math mc_min (by decide) (Nat.le_of_ble_eq_true rfl) ?_
        refine tw_minv (fun x182 ex182 => ?_)
        refine tw_ist (P := PX) (pc := 43) dX4_joinAt_43 hwb tq172 rfl (by omega) (by omega) (by omega) (by omega) (by decide) (fun f183 h184 eh184 gh184 kh184 wh184 fh184 => ?_)
        have hfh184 := hfb.tr fh184
        refine tw_iinc (pc := 44) dX4_joinAt_44 (.tail _ (.tail _ (.tail _ (.head _)))) (by decide) (by decide) (by omega) (fun x185 ex185 => ?_)
        show TT _ _ _ _ _ _ _ [(3, .inl x185), (0, .inr (some q163)), (1, .inl x164), (2, .inl x165)] _ _
        refine tt_goto (tgt := 2) (pc := 47) dX4_joinAt_47 (by decide) ?_
        refine tt_loc [(0, .inr (some q163)), (1, .inl x164), (2, .inl x165), (3, .inl x185)] (List.forall_mem_cons.mpr ⟨(.tail _ (.head _)), List.forall_mem_cons.mpr ⟨(.tail _ (.tail _ (.head _))), List.forall_mem_cons.mpr ⟨(.tail _ (.tail _ (.tail _ (.head _)))), List.forall_mem_cons.mpr ⟨(.head _), fun _ z => absurd z List.not_mem_nil⟩⟩⟩⟩) ?_
        exact ih2 h184 wh184 hfh184 q163 tq163 x164 (by omega) (by omega) x165 (by omega) (by omega) x185 (by omega) (by omega) (by omega)
  refine tw_iconst (pc := 0) dX4_joinAt_0 (by decide) (fun x186 ex186 => ?_)
  refine tt_istore_n (pc := 1) dX4_joinAt_1 (by decide) ?_
  show TT _ _ _ _ _ _ _ [(3, .inl x186), (0, .inr (some a0)), (1, .inl a1), (2, .inl a2)] _ _
  refine tt_loc [(0, .inr (some a0)), (1, .inl a1), (2, .inl a2), (3, .inl x186)] (List.forall_mem_cons.mpr ⟨(.tail _ (.head _)), List.forall_mem_cons.mpr ⟨(.tail _ (.tail _ (.head _))), List.forall_mem_cons.mpr ⟨(.tail _ (.tail _ (.tail _ (.head _)))), List.forall_mem_cons.mpr ⟨(.head _), fun _ z => absurd z List.not_mem_nil⟩⟩⟩⟩) ?_
  exact B2 9 h hw hf a0 ta0 a1 (by omega) (by omega) a2 (by omega) (by omega) x186 (by omega) (by omega) (by omega)
abbrev mX4_joinSteps : tM := (RX4, cX4_joinSteps, 3, 2, 44, false)
set_option maxHeartbeats 4000000 in
theorem g_X4_joinSteps {l : Launch} {D : va_G} {N : Nat} {pk : Int} {τ : List Nat} (hN2 : 2 ≤ N) (hN8 : N ≤ 8) (hp0 : 0 ≤ pk) (hp64 : pk ≤ 64) {h : List tC} (hw : WT N pk τ h) (a0 : Nat) (ta0 : τ[a0]? = some 4) : TMc l D yX4_joinSteps cX4_joinSteps 3 none 2 44 0 0 [.inr (some a0)] h (fun rv h' => WT N pk τ h' ∧ Fr PX τ h h' ∧ rv = none) := by
  refine tmc_of false rfl (by decide) (Nat.le_of_ble_eq_true rfl) ?_
  suffices HQ : ∀ Q0, Q0 = tRt cX4_joinSteps none (fun rv h' => WT N pk τ h' ∧ Fr PX τ h h' ∧ rv = none) → TT l D mX4_joinSteps Q0 0 0 0 [(0, .inr (some a0))] [] h from HQ _ rfl
  intro Q0 hQ
  have hf : Fr PX τ h h := Fr.rf
  have B2 : ∀ (n2 : Nat) (hb : List tC) (hwb : WT N pk τ hb) (hfb : Fr PX τ h hb) (q255 : Nat) (tq255 : τ[q255]? = some 4) (x256 : Int32) (lx256 : 0 ≤ x256.toInt) (ux256 : x256.toInt ≤ 8), 8 - x256.toInt < n2 → TT l D mX4_joinSteps Q0 0 0 2 [(0, .inr (some q255)), (1, .inl x256)] [] hb := by
    intro n2
    induction n2 with
    | zero =>
      intro hb hwb hfb q255 tq255 x256 lx256 ux256 hn2
      exfalso
      omega
    | succ n2 ih2 =>
      intro hb hwb hfb q255 tq255 x256 lx256 ux256 hn2
      have B10 : ∀ (n10 : Nat) (hb : List tC) (hwb : WT N pk τ hb) (hfb : Fr PX τ h hb) (q257 : Nat) (tq257 : τ[q257]? = some 4) (x258 : Int32) (lx258 : 0 ≤ x258.toInt) (ux258 : x258.toInt ≤ 7) (x259 : Int32) (lx259 : 0 ≤ x259.toInt) (ux259 : x259.toInt ≤ 8) (hn2 : 8 - x258.toInt < ((n2 + 1 : Nat) : Int)), 8 - x259.toInt < n10 → TT l D mX4_joinSteps Q0 0 0 10 [(0, .inr (some q257)), (1, .inl x258), (2, .inl x259)] [] hb := by
        intro n10
        induction n10 with
        | zero =>
          intro hb hwb hfb q257 tq257 x258 lx258 ux258 x259 lx259 ux259 hn2 hn10
          exfalso
          omega
        | succ n10 ih10 =>
          intro hb hwb hfb q257 tq257 x258 lx258 ux258 x259 lx259 ux259 hn2 hn10
          have B35 : ∀ (hb : List tC) (hwb : WT N pk τ hb) (hfb : Fr PX τ h hb) (q260 : Nat) (tq260 : τ[q260]? = some 4) (x261 : Int32) (lx261 : 0 ≤ x261.toInt) (ux261 : x261.toInt ≤ 7) (x262 : Int32) (lx262 : 0 ≤ x262.toInt) (ux262 : x262.toInt ≤ 7) (hn2 : 8 - x261.toInt < ((n2 + 1 : Nat) : Int)) (hn10 : 8 - x262.toInt < ((n10 + 1 : Nat) : Int)), TT l D mX4_joinSteps Q0 0 0 35 [(0, .inr (some q260)), (1, .inl x261), (2, .inl x262)] [] hb := by
            intro hb hwb hfb q260 tq260 x261 lx261 ux261 x262 lx262 ux262 hn2 hn10
            refine tw_iinc (pc := 35) dX4_joinSteps_35 (.tail _ (.tail _ (.head _))) (by decide) (by decide) (by omega) (fun x263 ex263 => ?_)
            show TT _ _ _ _ _ _ _ [(2, .inl x263), (0, .inr (some q260)), (1, .inl x261)] _ _
            refine tt_goto (tgt := 10) (pc := 38) dX4_joinSteps_38 (by decide) ?_
            refine tt_loc [(0, .inr (some q260)), (1, .inl x261), (2, .inl x263)] (List.forall_mem_cons.mpr ⟨(.tail _ (.head _)), List.forall_mem_cons.mpr ⟨(.tail _ (.tail _ (.head _))), List.forall_mem_cons.mpr ⟨(.head _), fun _ z => absurd z List.not_mem_nil⟩⟩⟩) ?_
            exact ih10 hb hwb hfb q260 tq260 x261 (by omega) (by omega) x263 (by omega) (by omega) (by omega) (by omega)
          refine tt_iload_n (pc := 10) dX4_joinSteps_10 (.tail _ (.tail _ (.head _))) ?_
          refine tw_bipush (pc := 11) dX4_joinSteps_11 (by decide) (fun x264 ex264 => ?_)
          refine tw_icmp (tgt := 41) (pc := 13) dX4_joinSteps_13 (by decide) (fun (c265 : x264.toInt ≤ x259.toInt) => ?_) (fun (c265 : ¬ (x264.toInt ≤ x259.toInt)) => ?_)
          · skip
            refine tw_iinc (pc := 41) dX4_joinSteps_41 (.tail _ (.head _)) (by decide) (by decide) (by omega) (fun x266 ex266 => ?_)
            show TT _ _ _ _ _ _ _ [(1, .inl x266), (0, .inr (some q257)), (2, .inl x259)] _ _
            refine tt_goto (tgt := 2) (pc := 44) dX4_joinSteps_44 (by decide) ?_
            refine tt_loc [(0, .inr (some q257)), (1, .inl x266)] (List.forall_mem_cons.mpr ⟨(.tail _ (.head _)), List.forall_mem_cons.mpr ⟨(.head _), fun _ z => absurd z List.not_mem_nil⟩⟩) ?_
            exact ih2 hb hwb hfb q257 tq257 x266 (by omega) (by omega) (by omega)
          · skip
            refine tt_aload_n (pc := 16) dX4_joinSteps_16 (.head _) ?_
            refine tw_getr (pc := 17) dX4_joinSteps_17 flX4_19 hwb tq257 (by decide) rfl (fun f267 q268 ef267 gf267 tq268 => ?_)
            refine tt_iload_n (pc := 20) dX4_joinSteps_20 (.tail _ (.tail _ (.head _))) ?_
            refine tw_ald (pc := 21) dX4_joinSteps_21 hwb tq268 rfl (by decide) (by omega) (by omega) (fun f269 q270 ef269 gf269 tq270 => ?_)
            refine tt_iload_n (pc := 22) dX4_joinSteps_22 (.tail _ (.head _)) ?_
            refine tw_ild (pc := 23) dX4_joinSteps_23 hwb tq270 rfl (by omega) (by omega) (fun f272 x271 ef272 gf272 lx271 ux271 => ?_)
            refine tw_ldc (n := 1000000) (pc := 24) dX4_joinSteps_24 rfl kcX4_58 (by decide) (fun x273 ex273 => ?_)
            refine tw_icmp (tgt := 35) (pc := 26) dX4_joinSteps_26 (by decide) (fun (c274 : x273.toInt ≤ x271.toInt) => ?_) (fun (c274 : ¬ (x273.toInt ≤ x271.toInt)) => ?_)
            · skip
              refine tt_loc [(0, .inr (some q257)), (1, .inl x258), (2, .inl x259)] (List.forall_mem_cons.mpr ⟨(.head _), List.forall_mem_cons.mpr ⟨(.tail _ (.head _)), List.forall_mem_cons.mpr ⟨(.tail _ (.tail _ (.head _))), fun _ z => absurd z List.not_mem_nil⟩⟩⟩) ?_
              exact B35 hb hwb hfb q257 tq257 x258 (by omega) (by omega) x259 (by omega) (by omega) (by omega) (by omega)
            · skip
              refine tt_aload_n (pc := 29) dX4_joinSteps_29 (.head _) ?_
              refine tt_iload_n (pc := 30) dX4_joinSteps_30 (.tail _ (.tail _ (.head _))) ?_
              refine tt_iload_n (pc := 31) dX4_joinSteps_31 (.tail _ (.head _)) ?_
              refine tw_callV (kc := 0) (ks := 0) (mc := 0) (ms := 0) (as := [.inl x259, .inl x258]) (st := []) (pc := 32) hwb tq257 (by decide) dX4_joinSteps_32 lkX4_65 imX4_joinAt seX4_joinAt rfl rfl (by decide) (by decide) (Nat.le_of_ble_eq_true rfl) (g_X4_joinAt hN2 hN8 hp0 hp64 hwb q257 tq257 x259 (by omega) (by omega) x258 (by omega) (by omega)) (fun rv h275 qh275 => ?_)
              obtain ⟨wh275, fh275, rfl⟩ := qh275
              have hfh275 := hfb.tr fh275
              show TT _ _ _ _ _ _ _ _ [] _
              refine tt_loc [(0, .inr (some q257)), (1, .inl x258), (2, .inl x259)] (List.forall_mem_cons.mpr ⟨(.head _), List.forall_mem_cons.mpr ⟨(.tail _ (.head _)), List.forall_mem_cons.mpr ⟨(.tail _ (.tail _ (.head _))), fun _ z => absurd z List.not_mem_nil⟩⟩⟩) ?_
              exact B35 h275 wh275 hfh275 q257 tq257 x258 (by omega) (by omega) x259 (by omega) (by omega) (by omega) (by omega)
      refine tt_iload_n (pc := 2) dX4_joinSteps_2 (.tail _ (.head _)) ?_
      refine tw_bipush (pc := 3) dX4_joinSteps_3 (by decide) (fun x276 ex276 => ?_)
      refine tw_icmp (tgt := 47) (pc := 5) dX4_joinSteps_5 (by decide) (fun (c277 : x276.toInt ≤ x256.toInt) => ?_) (fun (c277 : ¬ (x276.toInt ≤ x256.toInt)) => ?_)
      · skip
        refine tt_stop ?_
        rw [hQ]
        exact Or.inl ⟨dX4_joinSteps_47, rfl, rfl, hwb, hfb, rfl⟩
      · skip
        refine tw_iconst (pc := 8) dX4_joinSteps_8 (by decide) (fun x278 ex278 => ?_)
        refine tt_istore_n (pc := 9) dX4_joinSteps_9 (by decide) ?_
        show TT _ _ _ _ _ _ _ [(2, .inl x278), (0, .inr (some q255)), (1, .inl x256)] _ _
        refine tt_loc [(0, .inr (some q255)), (1, .inl x256), (2, .inl x278)] (List.forall_mem_cons.mpr ⟨(.tail _ (.head _)), List.forall_mem_cons.mpr ⟨(.tail _ (.tail _ (.head _))), List.forall_mem_cons.mpr ⟨(.head _), fun _ z => absurd z List.not_mem_nil⟩⟩⟩) ?_
        exact B10 9 hb hwb hfb q255 tq255 x256 (by omega) (by omega) x278 (by omega) (by omega) (by omega) (by omega)
  refine tw_iconst (pc := 0) dX4_joinSteps_0 (by decide) (fun x279 ex279 => ?_)
  refine tt_istore_n (pc := 1) dX4_joinSteps_1 (by decide) ?_
  show TT _ _ _ _ _ _ _ [(1, .inl x279), (0, .inr (some a0))] _ _
  refine tt_loc [(0, .inr (some a0)), (1, .inl x279)] (List.forall_mem_cons.mpr ⟨(.tail _ (.head _)), List.forall_mem_cons.mpr ⟨(.head _), fun _ z => absurd z List.not_mem_nil⟩⟩) ?_
  exact B2 9 h hw hf a0 ta0 x279 (by omega) (by omega) (by omega)
abbrev mX4_egress : tM := (RX4, cX4_egress, 4, 0, 0, false)
set_option maxHeartbeats 4000000 in
theorem g_X4_egress {l : Launch} {D : va_G} {N : Nat} {pk : Int} {τ : List Nat} (hN2 : 2 ≤ N) (hN8 : N ≤ 8) (hp0 : 0 ≤ pk) (hp64 : pk ≤ 64) {h : List tC} (hw : WT N pk τ h) (a0 : Nat) (ta0 : τ[a0]? = some 4) (a1 : Int32) : TMc l D yX4_egress cX4_egress 4 (some .int) 0 0 0 0 [.inr (some a0), .inl a1] h (fun rv h' => h = h' ∧ ∃ x : Int32, rv = some (.inl x) ∧ -1 ≤ x.toInt ∧ x.toInt ≤ 7) := by
  refine tmc_of false rfl (by decide) (Nat.le_of_ble_eq_true rfl) ?_
  suffices HQ : ∀ Q0, Q0 = tRt cX4_egress (some .int) (fun rv h' => h = h' ∧ ∃ x : Int32, rv = some (.inl x) ∧ -1 ≤ x.toInt ∧ x.toInt ≤ 7) → TT l D mX4_egress Q0 0 0 0 [(0, .inr (some a0)), (1, .inl a1)] [] h from HQ _ rfl
  intro Q0 hQ
  have B2 : ∀ (n2 : Nat) (q223 : Nat) (tq223 : τ[q223]? = some 4) (x224 : Int32) (x225 : Int32) (lx225 : 0 ≤ x225.toInt) (ux225 : x225.toInt ≤ 8), 8 - x225.toInt < n2 → TT l D mX4_egress Q0 0 0 2 [(0, .inr (some q223)), (1, .inl x224), (2, .inl x225)] [] h := by
    intro n2
    induction n2 with
    | zero =>
      intro q223 tq223 x224 x225 lx225 ux225 hn2
      exfalso
      omega
    | succ n2 ih2 =>
      intro q223 tq223 x224 x225 lx225 ux225 hn2
      have bx224 := i_ty x224
      have B49 : ∀ (q226 : Nat) (tq226 : τ[q226]? = some 4) (x227 : Int32) (x228 : Int32) (lx228 : 0 ≤ x228.toInt) (ux228 : x228.toInt ≤ 7) (hn2 : 8 - x228.toInt < ((n2 + 1 : Nat) : Int)), TT l D mX4_egress Q0 0 0 49 [(0, .inr (some q226)), (1, .inl x227), (2, .inl x228)] [] h := by
        intro q226 tq226 x227 x228 lx228 ux228 hn2
        have bx227 := i_ty x227
        refine tw_iinc (pc := 49) dX4_egress_49 (.tail _ (.tail _ (.head _))) (by decide) (by decide) (by omega) (fun x229 ex229 => ?_)
        show TT _ _ _ _ _ _ _ [(2, .inl x229), (0, .inr (some q226)), (1, .inl x227)] _ _
        refine tt_goto (tgt := 2) (pc := 52) dX4_egress_52 (by decide) ?_
        refine tt_loc [(0, .inr (some q226)), (1, .inl x227), (2, .inl x229)] (List.forall_mem_cons.mpr ⟨(.tail _ (.head _)), List.forall_mem_cons.mpr ⟨(.tail _ (.tail _ (.head _))), List.forall_mem_cons.mpr ⟨(.head _), fun _ z => absurd z List.not_mem_nil⟩⟩⟩) ?_
        exact ih2 q226 tq226 x227 x229 (by omega) (by omega) (by omega)
      refine tt_iload_n (pc := 2) dX4_egress_2 (.tail _ (.tail _ (.head _))) ?_
      refine tw_bipush (pc := 3) dX4_egress_3 (by decide) (fun x230 ex230 => ?_)
      refine tw_icmp (tgt := 55) (pc := 5) dX4_egress_5 (by decide) (fun (c231 : x230.toInt ≤ x225.toInt) => ?_) (fun (c231 : ¬ (x230.toInt ≤ x225.toInt)) => ?_)
      · skip
        refine tw_iconst (pc := 55) dX4_egress_55 (by decide) (fun x232 ex232 => ?_)
        refine tt_stop ?_
        rw [hQ]
        exact Or.inr (Or.inl ⟨x232, dX4_egress_56, rfl, Or.inl rfl, rfl, x232, rfl, by omega, by omega⟩)
      · skip
        refine tt_aload_n (pc := 8) dX4_egress_8 (.head _) ?_
        refine tw_getr (pc := 9) dX4_egress_9 flX4_11 hw tq223 (by decide) rfl (fun f233 q234 ef233 gf233 tq234 => ?_)
        refine tt_iload_n (pc := 12) dX4_egress_12 (.tail _ (.tail _ (.head _))) ?_
        refine tw_aldn (pc := 13) dX4_egress_13 hw tq234 rfl (by decide) (by omega) (by omega) (fun f235 o236 ef235 gf235 to236 => ?_)
        refine tt_astore_n (pc := 14) dX4_egress_14 (by decide) ?_
        show TT _ _ _ _ _ _ _ [(3, .inr o236), (0, .inr (some q223)), (1, .inl x224), (2, .inl x225)] _ _
        refine tt_aload_n (pc := 15) dX4_egress_15 (.head _) ?_
        refine tt_ifnull (tgt := 49) (pc := 16) dX4_egress_16 (by decide) (fun z237 => ?_) (fun q238 z237 => ?_)
        · subst z237
          refine tt_loc [(0, .inr (some q223)), (1, .inl x224), (2, .inl x225)] (List.forall_mem_cons.mpr ⟨(.tail _ (.head _)), List.forall_mem_cons.mpr ⟨(.tail _ (.tail _ (.head _))), List.forall_mem_cons.mpr ⟨(.tail _ (.tail _ (.tail _ (.head _)))), fun _ z => absurd z List.not_mem_nil⟩⟩⟩) ?_
          exact B49 q223 tq223 x224 x225 (by omega) (by omega) (by omega)
        · have tq238 := to236 q238 z237
          subst z237
          refine tt_aload_n (pc := 19) dX4_egress_19 (.head _) ?_
          refine tw_geti (pc := 20) dX4_egress_20 flX4_68 hw tq238 (by decide) rfl (fun f239 x240 ef239 gf239 lx240 ux240 => ?_)
          refine tt_iload_n (pc := 23) dX4_egress_23 (.tail _ (.tail _ (.head _))) ?_
          refine tt_ishr (pc := 24) dX4_egress_24 ?_
          refine tw_any (fun x241 => ?_)
          have bx241 := i_ty x241
          refine tw_iconst (pc := 25) dX4_egress_25 (by decide) (fun x242 ex242 => ?_)
          refine tt_iand (pc := 26) dX4_egress_26 ?_
          refine tw_any (fun x243 => ?_)
          have bx243 := i_ty x243
          refine tw_iconst (pc := 27) dX4_egress_27 (by decide) (fun x244 ex244 => ?_)
          refine tw_icmp (tgt := 49) (pc := 28) dX4_egress_28 (by decide) (fun (c245 : x243.toInt ≠ x244.toInt) => ?_) (fun (c245 : ¬ (x243.toInt ≠ x244.toInt)) => ?_)
          · skip
            refine tt_loc [(0, .inr (some q223)), (1, .inl x224), (2, .inl x225)] (List.forall_mem_cons.mpr ⟨(.tail _ (.head _)), List.forall_mem_cons.mpr ⟨(.tail _ (.tail _ (.head _))), List.forall_mem_cons.mpr ⟨(.tail _ (.tail _ (.tail _ (.head _)))), fun _ z => absurd z List.not_mem_nil⟩⟩⟩) ?_
            exact B49 q223 tq223 x224 x225 (by omega) (by omega) (by omega)
          · skip
            refine tt_aload_n (pc := 31) dX4_egress_31 (.tail _ (.head _)) ?_
            refine tw_getr (pc := 32) dX4_egress_32 flX4_19 hw tq223 (by decide) rfl (fun f246 q247 ef246 gf246 tq247 => ?_)
            refine tt_aload_n (pc := 35) dX4_egress_35 (.tail _ (.head _)) ?_
            refine tw_geti (pc := 36) dX4_egress_36 flX4_41 hw tq223 (by decide) rfl (fun f248 x249 ef248 gf248 lx249 ux249 => ?_)
            refine tw_ald (pc := 39) dX4_egress_39 hw tq247 rfl (by decide) (by omega) (by omega) (fun f250 q251 ef250 gf250 tq251 => ?_)
            refine tt_iload_n (pc := 40) dX4_egress_40 (.tail _ (.tail _ (.tail _ (.head _)))) ?_
            refine tw_ild (pc := 41) dX4_egress_41 hw tq251 rfl (by omega) (by omega) (fun f253 x252 ef253 gf253 lx252 ux252 => ?_)
            refine tw_ldc (n := 1000000) (pc := 42) dX4_egress_42 rfl kcX4_58 (by decide) (fun x254 ex254 => ?_)
            refine tw_icmp (tgt := 49) (pc := 44) dX4_egress_44 (by decide) (fun (c255 : x254.toInt ≤ x252.toInt) => ?_) (fun (c255 : ¬ (x254.toInt ≤ x252.toInt)) => ?_)
            · skip
              refine tt_loc [(0, .inr (some q223)), (1, .inl x224), (2, .inl x225)] (List.forall_mem_cons.mpr ⟨(.tail _ (.head _)), List.forall_mem_cons.mpr ⟨(.tail _ (.tail _ (.head _))), List.forall_mem_cons.mpr ⟨(.tail _ (.tail _ (.tail _ (.head _)))), fun _ z => absurd z List.not_mem_nil⟩⟩⟩) ?_
              exact B49 q223 tq223 x224 x225 (by omega) (by omega) (by omega)
            · skip
              refine tt_iload_n (pc := 47) dX4_egress_47 (.tail _ (.tail _ (.tail _ (.head _)))) ?_
              refine tt_stop ?_
              rw [hQ]
              exact Or.inr (Or.inl ⟨x225, dX4_egress_48, rfl, Or.inl rfl, rfl, x225, rfl, by omega, by omega⟩)
  have ba1 := i_ty a1
  refine tw_iconst (pc := 0) dX4_egress_0 (by decide) (fun x256 ex256 => ?_)
  refine tt_istore_n (pc := 1) dX4_egress_1 (by decide) ?_
  show TT _ _ _ _ _ _ _ [(2, .inl x256), (0, .inr (some a0)), (1, .inl a1)] _ _
  refine tt_loc [(0, .inr (some a0)), (1, .inl a1), (2, .inl x256)] (List.forall_mem_cons.mpr ⟨(.tail _ (.head _)), List.forall_mem_cons.mpr ⟨(.tail _ (.tail _ (.head _))), List.forall_mem_cons.mpr ⟨(.head _), fun _ z => absurd z List.not_mem_nil⟩⟩⟩) ?_
  exact B2 9 a0 ta0 a1 x256 (by omega) (by omega) (by omega)
abbrev mX4_forgetLink : tM := (RX4, cX4_forgetLink, 3, 2, 41, false)
set_option maxHeartbeats 4000000 in
theorem g_X4_forgetLink {l : Launch} {D : va_G} {N : Nat} {pk : Int} {τ : List Nat} (hN2 : 2 ≤ N) (hN8 : N ≤ 8) (hp0 : 0 ≤ pk) (hp64 : pk ≤ 64) {h : List tC} (hw : WT N pk τ h) (a0 : Nat) (ta0 : τ[a0]? = some 4) (a1 : Int32) (la1 : 0 ≤ a1.toInt) (ua1 : a1.toInt ≤ 11) : TMc l D yX4_forgetLink cX4_forgetLink 3 none 2 41 0 0 [.inr (some a0), .inl a1] h (fun rv h' => WT N pk τ h' ∧ Fr PX τ h h' ∧ rv = none) := by
  refine tmc_of false rfl (by decide) (Nat.le_of_ble_eq_true rfl) ?_
  suffices HQ : ∀ Q0, Q0 = tRt cX4_forgetLink none (fun rv h' => WT N pk τ h' ∧ Fr PX τ h h' ∧ rv = none) → TT l D mX4_forgetLink Q0 0 0 0 [(0, .inr (some a0)), (1, .inl a1)] [] h from HQ _ rfl
  intro Q0 hQ
  have hf : Fr PX τ h h := Fr.rf
  have B23 : ∀ (n23 : Nat) (hb : List tC) (hwb : WT N pk τ hb) (hfb : Fr PX τ h hb) (q214 : Nat) (tq214 : τ[q214]? = some 4) (x215 : Int32) (lx215 : 0 ≤ x215.toInt) (ux215 : x215.toInt ≤ 11) (x216 : Int32) (lx216 : 16 ≤ x216.toInt) (ux216 : x216.toInt ≤ 80), 80 - x216.toInt < n23 → TT l D mX4_forgetLink Q0 0 0 23 [(0, .inr (some q214)), (1, .inl x215), (2, .inl x216)] [] hb := by
    intro n23
    induction n23 with
    | zero =>
      intro hb hwb hfb q214 tq214 x215 lx215 ux215 x216 lx216 ux216 hn23
      exfalso
      omega
    | succ n23 ih23 =>
      intro hb hwb hfb q214 tq214 x215 lx215 ux215 x216 lx216 ux216 hn23
      refine tt_iload_n (pc := 23) dX4_forgetLink_23 (.tail _ (.tail _ (.head _))) ?_
      refine tw_bipush (pc := 24) dX4_forgetLink_24 (by decide) (fun x217 ex217 => ?_)
      refine tw_icmp (tgt := 54) (pc := 26) dX4_forgetLink_26 (by decide) (fun (c218 : x217.toInt ≤ x216.toInt) => ?_) (fun (c218 : ¬ (x217.toInt ≤ x216.toInt)) => ?_)
      · skip
        refine tt_stop ?_
        rw [hQ]
        exact Or.inl ⟨dX4_forgetLink_54, rfl, rfl, hwb, hfb, rfl⟩
      · skip
        refine tt_aload_n (pc := 29) dX4_forgetLink_29 (.head _) ?_
        refine tw_getr (pc := 30) dX4_forgetLink_30 flX4_38 hwb tq214 (by decide) rfl (fun f219 q220 ef219 gf219 tq220 => ?_)
        refine tt_iload_n (pc := 33) dX4_forgetLink_33 (.tail _ (.tail _ (.head _))) ?_
        refine tt_dup2 (pc := 34) dX4_forgetLink_34 ?_
        refine tw_ild (pc := 35) dX4_forgetLink_35 hwb tq220 rfl (by omega) (by omega) (fun f222 x221 ef222 gf222 lx221 ux221 => ?_)
        refine tw_iconst (pc := 36) dX4_forgetLink_36 (by decide) (fun x223 ex223 => ?_)
        refine tt_iload_n (pc := 37) dX4_forgetLink_37 (.tail _ (.head _)) ?_
        refine tt_ishl (pc := 38) dX4_forgetLink_38 ?_
        refine tw_any (fun x224 => ?_)
        have bx224 := i_ty x224
        refine tw_iconst (pc := 39) dX4_forgetLink_39 (by decide) (fun x225 ex225 => ?_)
        refine tt_ixor (pc := 40) dX4_forgetLink_40 ?_
        refine tw_any (fun x226 => ?_)
        have bx226 := i_ty x226
        refine tt_iand (pc := 41) dX4_forgetLink_41 ?_
        refine tw_any (fun x227 => ?_)
        have bx227 := i_ty x227
        refine tw_ist (P := PX) (pc := 42) dX4_forgetLink_42 hwb tq220 rfl (by omega) (by omega) (by omega) (by omega) (by decide) (fun f228 h229 eh229 gh229 kh229 wh229 fh229 => ?_)
        have hfh229 := hfb.tr fh229
        refine tt_aload_n (pc := 43) dX4_forgetLink_43 (.head _) ?_
        refine tt_iload_n (pc := 44) dX4_forgetLink_44 (.tail _ (.tail _ (.head _))) ?_
        refine tw_callV (kc := 0) (ks := 0) (mc := 0) (ms := 0) (as := [.inl x216]) (st := []) (pc := 45) wh229 tq214 (by decide) dX4_forgetLink_45 lkX4_71 imX4_freeIfReleased seX4_freeIfReleased rfl rfl (by decide) (by decide) (Nat.le_of_ble_eq_true rfl) (g_X4_freeIfReleased hN2 hN8 hp0 hp64 wh229 q214 tq214 x216) (fun rv h230 qh230 => ?_)
        obtain ⟨wh230, fh230, rfl⟩ := qh230
        have hfh230 := hfh229.tr fh230
        show TT _ _ _ _ _ _ _ _ [] _
        refine tw_iinc (pc := 48) dX4_forgetLink_48 (.tail _ (.tail _ (.head _))) (by decide) (by decide) (by omega) (fun x231 ex231 => ?_)
        show TT _ _ _ _ _ _ _ [(2, .inl x231), (0, .inr (some q214)), (1, .inl x215)] _ _
        refine tt_goto (tgt := 23) (pc := 51) dX4_forgetLink_51 (by decide) ?_
        refine tt_loc [(0, .inr (some q214)), (1, .inl x215), (2, .inl x231)] (List.forall_mem_cons.mpr ⟨(.tail _ (.head _)), List.forall_mem_cons.mpr ⟨(.tail _ (.tail _ (.head _))), List.forall_mem_cons.mpr ⟨(.head _), fun _ z => absurd z List.not_mem_nil⟩⟩⟩) ?_
        exact ih23 h230 wh230 hfh230 q214 tq214 x215 (by omega) (by omega) x231 (by omega) (by omega) (by omega)
  have B2 : ∀ (n2 : Nat) (hb : List tC) (hwb : WT N pk τ hb) (hfb : Fr PX τ h hb) (q232 : Nat) (tq232 : τ[q232]? = some 4) (x233 : Int32) (lx233 : 0 ≤ x233.toInt) (ux233 : x233.toInt ≤ 11) (x234 : Int32) (lx234 : 0 ≤ x234.toInt) (ux234 : x234.toInt ≤ 8), 8 - x234.toInt < n2 → TT l D mX4_forgetLink Q0 0 0 2 [(0, .inr (some q232)), (1, .inl x233), (2, .inl x234)] [] hb := by
    intro n2
    induction n2 with
    | zero =>
      intro hb hwb hfb q232 tq232 x233 lx233 ux233 x234 lx234 ux234 hn2
      exfalso
      omega
    | succ n2 ih2 =>
      intro hb hwb hfb q232 tq232 x233 lx233 ux233 x234 lx234 ux234 hn2
      refine tt_iload_n (pc := 2) dX4_forgetLink_2 (.tail _ (.tail _ (.head _))) ?_
      refine tw_bipush (pc := 3) dX4_forgetLink_3 (by decide) (fun x235 ex235 => ?_)
      refine tw_icmp (tgt := 20) (pc := 5) dX4_forgetLink_5 (by decide) (fun (c236 : x235.toInt ≤ x234.toInt) => ?_) (fun (c236 : ¬ (x235.toInt ≤ x234.toInt)) => ?_)
      · skip
        refine tw_bipush (pc := 20) dX4_forgetLink_20 (by decide) (fun x237 ex237 => ?_)
        refine tt_istore_n (pc := 22) dX4_forgetLink_22 (by decide) ?_
        show TT _ _ _ _ _ _ _ [(2, .inl x237), (0, .inr (some q232)), (1, .inl x233)] _ _
        refine tt_loc [(0, .inr (some q232)), (1, .inl x233), (2, .inl x237)] (List.forall_mem_cons.mpr ⟨(.tail _ (.head _)), List.forall_mem_cons.mpr ⟨(.tail _ (.tail _ (.head _))), List.forall_mem_cons.mpr ⟨(.head _), fun _ z => absurd z List.not_mem_nil⟩⟩⟩) ?_
        exact B23 65 hb hwb hfb q232 tq232 x233 (by omega) (by omega) x237 (by omega) (by omega) (by omega)
      · skip
        refine tt_aload_n (pc := 8) dX4_forgetLink_8 (.head _) ?_
        refine tt_iload_n (pc := 9) dX4_forgetLink_9 (.tail _ (.tail _ (.head _))) ?_
        refine tt_iload_n (pc := 10) dX4_forgetLink_10 (.tail _ (.head _)) ?_
        refine tw_callV (kc := 0) (ks := 0) (mc := 0) (ms := 0) (as := [.inl x234, .inl x233]) (st := []) (pc := 11) hwb tq232 (by decide) dX4_forgetLink_11 lkX4_51 imX4_forgetMapping seX4_forgetMapping rfl rfl (by decide) (by decide) (Nat.le_of_ble_eq_true rfl) (g_X4_forgetMapping hN2 hN8 hp0 hp64 hwb q232 tq232 x234 (by omega) (by omega) x233 (by omega) (by omega)) (fun rv h238 qh238 => ?_)
        obtain ⟨wh238, fh238, rfl⟩ := qh238
        have hfh238 := hfb.tr fh238
        show TT _ _ _ _ _ _ _ _ [] _
        refine tw_iinc (pc := 14) dX4_forgetLink_14 (.tail _ (.tail _ (.head _))) (by decide) (by decide) (by omega) (fun x239 ex239 => ?_)
        show TT _ _ _ _ _ _ _ [(2, .inl x239), (0, .inr (some q232)), (1, .inl x233)] _ _
        refine tt_goto (tgt := 2) (pc := 17) dX4_forgetLink_17 (by decide) ?_
        refine tt_loc [(0, .inr (some q232)), (1, .inl x233), (2, .inl x239)] (List.forall_mem_cons.mpr ⟨(.tail _ (.head _)), List.forall_mem_cons.mpr ⟨(.tail _ (.tail _ (.head _))), List.forall_mem_cons.mpr ⟨(.head _), fun _ z => absurd z List.not_mem_nil⟩⟩⟩) ?_
        exact ih2 h238 wh238 hfh238 q232 tq232 x233 (by omega) (by omega) x239 (by omega) (by omega) (by omega)
  refine tw_iconst (pc := 0) dX4_forgetLink_0 (by decide) (fun x240 ex240 => ?_)
  refine tt_istore_n (pc := 1) dX4_forgetLink_1 (by decide) ?_
  show TT _ _ _ _ _ _ _ [(2, .inl x240), (0, .inr (some a0)), (1, .inl a1)] _ _
  refine tt_loc [(0, .inr (some a0)), (1, .inl a1), (2, .inl x240)] (List.forall_mem_cons.mpr ⟨(.tail _ (.head _)), List.forall_mem_cons.mpr ⟨(.tail _ (.tail _ (.head _))), List.forall_mem_cons.mpr ⟨(.head _), fun _ z => absurd z List.not_mem_nil⟩⟩⟩) ?_
  exact B2 9 h hw hf a0 ta0 a1 (by omega) (by omega) x240 (by omega) (by omega) (by omega)
abbrev mX4_leastFreeLabel : tM := (RX4, cX4_leastFreeLabel, 2, 0, 0, false)
set_option maxHeartbeats 4000000 in
theorem g_X4_leastFreeLabel {l : Launch} {D : va_G} {N : Nat} {pk : Int} {τ : List Nat} (hN2 : 2 ≤ N) (hN8 : N ≤ 8) (hp0 : 0 ≤ pk) (hp64 : pk ≤ 64) {h : List tC} (hw : WT N pk τ h) (a0 : Nat) (ta0 : τ[a0]? = some 4) : TMc l D yX4_leastFreeLabel cX4_leastFreeLabel 2 (some .int) 0 0 0 0 [.inr (some a0)] h (fun rv h' => h = h' ∧ ∃ x : Int32, rv = some (.inl x) ∧ -1 ≤ x.toInt ∧ x.toInt ≤ 79) := by
  refine tmc_of false rfl (by decide) (Nat.le_of_ble_eq_true rfl) ?_
  suffices HQ : ∀ Q0, Q0 = tRt cX4_leastFreeLabel (some .int) (fun rv h' => h = h' ∧ ∃ x : Int32, rv = some (.inl x) ∧ -1 ≤ x.toInt ∧ x.toInt ≤ 79) → TT l D mX4_leastFreeLabel Q0 0 0 0 [(0, .inr (some a0))] [] h from HQ _ rfl
  intro Q0 hQ
  have B3 : ∀ (n3 : Nat) (q102 : Nat) (tq102 : τ[q102]? = some 4) (x103 : Int32) (lx103 : 16 ≤ x103.toInt) (ux103 : x103.toInt ≤ 80), 80 - x103.toInt < n3 → TT l D mX4_leastFreeLabel Q0 0 0 3 [(0, .inr (some q102)), (1, .inl x103)] [] h := by
    intro n3
    induction n3 with
    | zero =>
      intro q102 tq102 x103 lx103 ux103 hn3
      exfalso
      omega
    | succ n3 ih3 =>
      intro q102 tq102 x103 lx103 ux103 hn3
      refine tt_iload_n (pc := 3) dX4_leastFreeLabel_3 (.tail _ (.head _)) ?_
      refine tw_bipush (pc := 4) dX4_leastFreeLabel_4 (by decide) (fun x104 ex104 => ?_)
      refine tw_icmp (tgt := 27) (pc := 6) dX4_leastFreeLabel_6 (by decide) (fun (c105 : x104.toInt ≤ x103.toInt) => ?_) (fun (c105 : ¬ (x104.toInt ≤ x103.toInt)) => ?_)
      · skip
        refine tw_iconst (pc := 27) dX4_leastFreeLabel_27 (by decide) (fun x106 ex106 => ?_)
        refine tt_stop ?_
        rw [hQ]
        exact Or.inr (Or.inl ⟨x106, dX4_leastFreeLabel_28, rfl, Or.inl rfl, rfl, x106, rfl, by omega, by omega⟩)
      · skip
        refine tt_aload_n (pc := 9) dX4_leastFreeLabel_9 (.head _) ?_
        refine tw_getr (pc := 10) dX4_leastFreeLabel_10 flX4_35 hw tq102 (by decide) rfl (fun f107 q108 ef107 gf107 tq108 => ?_)
        refine tt_iload_n (pc := 13) dX4_leastFreeLabel_13 (.tail _ (.head _)) ?_
        refine tw_ild (pc := 14) dX4_leastFreeLabel_14 hw tq108 rfl (by omega) (by omega) (fun f110 x109 ef110 gf110 lx109 ux109 => ?_)
        refine tw_iconst (pc := 15) dX4_leastFreeLabel_15 (by decide) (fun x111 ex111 => ?_)
        refine tw_icmp (tgt := 21) (pc := 16) dX4_leastFreeLabel_16 (by decide) (fun (c112 : x109.toInt ≠ x111.toInt) => ?_) (fun (c112 : ¬ (x109.toInt ≠ x111.toInt)) => ?_)
        · skip
          refine tw_iinc (pc := 21) dX4_leastFreeLabel_21 (.tail _ (.head _)) (by decide) (by decide) (by omega) (fun x113 ex113 => ?_)
          show TT _ _ _ _ _ _ _ [(1, .inl x113), (0, .inr (some q102))] _ _
          refine tt_goto (tgt := 3) (pc := 24) dX4_leastFreeLabel_24 (by decide) ?_
          refine tt_loc [(0, .inr (some q102)), (1, .inl x113)] (List.forall_mem_cons.mpr ⟨(.tail _ (.head _)), List.forall_mem_cons.mpr ⟨(.head _), fun _ z => absurd z List.not_mem_nil⟩⟩) ?_
          exact ih3 q102 tq102 x113 (by omega) (by omega) (by omega)
        · skip
          refine tt_iload_n (pc := 19) dX4_leastFreeLabel_19 (.tail _ (.head _)) ?_
          refine tt_stop ?_
          rw [hQ]
          exact Or.inr (Or.inl ⟨x103, dX4_leastFreeLabel_20, rfl, Or.inl rfl, rfl, x103, rfl, by omega, by omega⟩)
  refine tw_bipush (pc := 0) dX4_leastFreeLabel_0 (by decide) (fun x114 ex114 => ?_)
  refine tt_istore_n (pc := 2) dX4_leastFreeLabel_2 (by decide) ?_
  show TT _ _ _ _ _ _ _ [(1, .inl x114), (0, .inr (some a0))] _ _
  refine tt_loc [(0, .inr (some a0)), (1, .inl x114)] (List.forall_mem_cons.mpr ⟨(.tail _ (.head _)), List.forall_mem_cons.mpr ⟨(.head _), fun _ z => absurd z List.not_mem_nil⟩⟩) ?_
  exact B3 65 a0 ta0 x114 (by omega) (by omega) (by omega)
abbrev mX4_labelFor : tM := (RX4, cX4_labelFor, 3, 1, 21, false)
set_option maxHeartbeats 4000000 in
theorem g_X4_labelFor {l : Launch} {D : va_G} {N : Nat} {pk : Int} {τ : List Nat} (hN2 : 2 ≤ N) (hN8 : N ≤ 8) (hp0 : 0 ≤ pk) (hp64 : pk ≤ 64) {h : List tC} (hw : WT N pk τ h) (a0 : Nat) (ta0 : τ[a0]? = some 4) (a1 : Int32) (a2 : Int32) : TMc l D yX4_labelFor cX4_labelFor 3 (some .int) 1 21 0 0 [.inr (some a0), .inl a1, .inl a2] h (fun rv h' => h = h' ∧ ∃ x : Int32, rv = some (.inl x) ∧ -2147483648 ≤ x.toInt ∧ x.toInt ≤ 2147483647) := by
  refine tmc_of false rfl (by decide) (Nat.le_of_ble_eq_true rfl) ?_
  suffices HQ : ∀ Q0, Q0 = tRt cX4_labelFor (some .int) (fun rv h' => h = h' ∧ ∃ x : Int32, rv = some (.inl x) ∧ -2147483648 ≤ x.toInt ∧ x.toInt ≤ 2147483647) → TT l D mX4_labelFor Q0 0 0 0 [(0, .inr (some a0)), (1, .inl a1), (2, .inl a2)] [] h from HQ _ rfl
  intro Q0 hQ
  have ba1 := i_ty a1
  have ba2 := i_ty a2
  refine tt_iload_n (pc := 0) dX4_labelFor_0 (.tail _ (.tail _ (.head _))) ?_
  refine tw_iconst (pc := 1) dX4_labelFor_1 (by decide) (fun x14 ex14 => ?_)
  refine tw_icmp (tgt := 7) (pc := 2) dX4_labelFor_2 (by decide) (fun (c15 : a2.toInt ≠ x14.toInt) => ?_) (fun (c15 : ¬ (a2.toInt ≠ x14.toInt)) => ?_)
  · skip
    refine tt_iload_n (pc := 7) dX4_labelFor_7 (.tail _ (.tail _ (.head _))) ?_
    refine tw_iconst (pc := 8) dX4_labelFor_8 (by decide) (fun x16 ex16 => ?_)
    refine tt_aload_n (pc := 9) dX4_labelFor_9 (.head _) ?_
    refine tw_geti (pc := 10) dX4_labelFor_10 flX4_41 hw ta0 (by decide) rfl (fun f17 x18 ef17 gf17 lx18 ux18 => ?_)
    refine tt_ishl (pc := 13) dX4_labelFor_13 ?_
    refine tw_any (fun x19 => ?_)
    have bx19 := i_ty x19
    refine tw_icmp (tgt := 19) (pc := 14) dX4_labelFor_14 (by decide) (fun (c20 : a2.toInt ≠ x19.toInt) => ?_) (fun (c20 : ¬ (a2.toInt ≠ x19.toInt)) => ?_)
    · skip
      refine tt_iload_n (pc := 19) dX4_labelFor_19 (.tail _ (.head _)) ?_
      refine tw_bipush (pc := 20) dX4_labelFor_20 (by decide) (fun x21 ex21 => ?_)
      refine tw_icmp (tgt := 29) (pc := 22) dX4_labelFor_22 (by decide) (fun (c22 : a1.toInt < x21.toInt) => ?_) (fun (c22 : ¬ (a1.toInt < x21.toInt)) => ?_)
      · skip
        refine tt_aload_n (pc := 29) dX4_labelFor_29 (.head _) ?_
        refine tw_callV (kc := 0) (ks := 0) (mc := 0) (ms := 0) (as := []) (st := []) (pc := 30) hw ta0 (by decide) dX4_labelFor_30 lkX4_75 imX4_leastFreeLabel seX4_leastFreeLabel rfl rfl (by decide) (by decide) (Nat.le_of_ble_eq_true rfl) (g_X4_leastFreeLabel hN2 hN8 hp0 hp64 hw a0 ta0) (fun rv h23 qh23 => ?_)
        obtain ⟨rfl, x24, rfl, lx24, ux24⟩ := qh23
        show TT _ _ _ _ _ _ _ _ [.inl x24] _
        refine tt_stop ?_
        rw [hQ]
        exact Or.inr (Or.inl ⟨x24, dX4_labelFor_33, rfl, Or.inl rfl, rfl, x24, rfl, by omega, by omega⟩)
      · skip
        refine tt_iload_n (pc := 25) dX4_labelFor_25 (.tail _ (.head _)) ?_
        refine tt_goto (tgt := 33) (pc := 26) dX4_labelFor_26 (by decide) ?_
        refine tt_stop ?_
        rw [hQ]
        exact Or.inr (Or.inl ⟨a1, dX4_labelFor_33, rfl, Or.inl rfl, rfl, a1, rfl, by omega, by omega⟩)
    · skip
      refine tw_iconst (pc := 17) dX4_labelFor_17 (by decide) (fun x25 ex25 => ?_)
      refine tt_stop ?_
      rw [hQ]
      exact Or.inr (Or.inl ⟨x25, dX4_labelFor_18, rfl, Or.inl rfl, rfl, x25, rfl, by omega, by omega⟩)
  · skip
    refine tw_iconst (pc := 5) dX4_labelFor_5 (by decide) (fun x26 ex26 => ?_)
    refine tt_stop ?_
    rw [hQ]
    exact Or.inr (Or.inl ⟨x26, dX4_labelFor_6, rfl, Or.inl rfl, rfl, x26, rfl, by omega, by omega⟩)
abbrev mX4_prefixOfLabel : tM := (RX4, cX4_prefixOfLabel, 3, 0, 0, false)
set_option maxHeartbeats 4000000 in
theorem g_X4_prefixOfLabel {l : Launch} {D : va_G} {N : Nat} {pk : Int} {τ : List Nat} (hN2 : 2 ≤ N) (hN8 : N ≤ 8) (hp0 : 0 ≤ pk) (hp64 : pk ≤ 64) {h : List tC} (hw : WT N pk τ h) (a0 : Nat) (ta0 : τ[a0]? = some 4) (a1 : Int32) : TMc l D yX4_prefixOfLabel cX4_prefixOfLabel 3 (some .int) 0 0 0 0 [.inr (some a0), .inl a1] h (fun rv h' => h = h' ∧ ∃ x : Int32, rv = some (.inl x) ∧ -1 ≤ x.toInt ∧ x.toInt ≤ 7) := by
  refine tmc_of false rfl (by decide) (Nat.le_of_ble_eq_true rfl) ?_
  suffices HQ : ∀ Q0, Q0 = tRt cX4_prefixOfLabel (some .int) (fun rv h' => h = h' ∧ ∃ x : Int32, rv = some (.inl x) ∧ -1 ≤ x.toInt ∧ x.toInt ≤ 7) → TT l D mX4_prefixOfLabel Q0 0 0 0 [(0, .inr (some a0)), (1, .inl a1)] [] h from HQ _ rfl
  intro Q0 hQ
  have B2 : ∀ (n2 : Nat) (q80 : Nat) (tq80 : τ[q80]? = some 4) (x81 : Int32) (x82 : Int32) (lx82 : 0 ≤ x82.toInt) (ux82 : x82.toInt ≤ 8), 8 - x82.toInt < n2 → TT l D mX4_prefixOfLabel Q0 0 0 2 [(0, .inr (some q80)), (1, .inl x81), (2, .inl x82)] [] h := by
    intro n2
    induction n2 with
    | zero =>
      intro q80 tq80 x81 x82 lx82 ux82 hn2
      exfalso
      omega
    | succ n2 ih2 =>
      intro q80 tq80 x81 x82 lx82 ux82 hn2
      have bx81 := i_ty x81
      refine tt_iload_n (pc := 2) dX4_prefixOfLabel_2 (.tail _ (.tail _ (.head _))) ?_
      refine tw_bipush (pc := 3) dX4_prefixOfLabel_3 (by decide) (fun x83 ex83 => ?_)
      refine tw_icmp (tgt := 26) (pc := 5) dX4_prefixOfLabel_5 (by decide) (fun (c84 : x83.toInt ≤ x82.toInt) => ?_) (fun (c84 : ¬ (x83.toInt ≤ x82.toInt)) => ?_)
      · skip
        refine tw_iconst (pc := 26) dX4_prefixOfLabel_26 (by decide) (fun x85 ex85 => ?_)
        refine tt_stop ?_
        rw [hQ]
        exact Or.inr (Or.inl ⟨x85, dX4_prefixOfLabel_27, rfl, Or.inl rfl, rfl, x85, rfl, by omega, by omega⟩)
      · skip
        refine tt_aload_n (pc := 8) dX4_prefixOfLabel_8 (.head _) ?_
        refine tw_getr (pc := 9) dX4_prefixOfLabel_9 flX4_28 hw tq80 (by decide) rfl (fun f86 q87 ef86 gf86 tq87 => ?_)
        refine tt_iload_n (pc := 12) dX4_prefixOfLabel_12 (.tail _ (.tail _ (.head _))) ?_
        refine tw_ild (pc := 13) dX4_prefixOfLabel_13 hw tq87 rfl (by omega) (by omega) (fun f89 x88 ef89 gf89 lx88 ux88 => ?_)
        refine tt_iload_n (pc := 14) dX4_prefixOfLabel_14 (.tail _ (.head _)) ?_
        refine tw_icmp (tgt := 20) (pc := 15) dX4_prefixOfLabel_15 (by decide) (fun (c90 : x88.toInt ≠ x81.toInt) => ?_) (fun (c90 : ¬ (x88.toInt ≠ x81.toInt)) => ?_)
        · skip
          refine tw_iinc (pc := 20) dX4_prefixOfLabel_20 (.tail _ (.tail _ (.head _))) (by decide) (by decide) (by omega) (fun x91 ex91 => ?_)
          show TT _ _ _ _ _ _ _ [(2, .inl x91), (0, .inr (some q80)), (1, .inl x81)] _ _
          refine tt_goto (tgt := 2) (pc := 23) dX4_prefixOfLabel_23 (by decide) ?_
          refine tt_loc [(0, .inr (some q80)), (1, .inl x81), (2, .inl x91)] (List.forall_mem_cons.mpr ⟨(.tail _ (.head _)), List.forall_mem_cons.mpr ⟨(.tail _ (.tail _ (.head _))), List.forall_mem_cons.mpr ⟨(.head _), fun _ z => absurd z List.not_mem_nil⟩⟩⟩) ?_
          exact ih2 q80 tq80 x81 x91 (by omega) (by omega) (by omega)
        · skip
          refine tt_iload_n (pc := 18) dX4_prefixOfLabel_18 (.tail _ (.tail _ (.head _))) ?_
          refine tt_stop ?_
          rw [hQ]
          exact Or.inr (Or.inl ⟨x82, dX4_prefixOfLabel_19, rfl, Or.inl rfl, rfl, x82, rfl, by omega, by omega⟩)
  have ba1 := i_ty a1
  refine tw_iconst (pc := 0) dX4_prefixOfLabel_0 (by decide) (fun x92 ex92 => ?_)
  refine tt_istore_n (pc := 1) dX4_prefixOfLabel_1 (by decide) ?_
  show TT _ _ _ _ _ _ _ [(2, .inl x92), (0, .inr (some a0)), (1, .inl a1)] _ _
  refine tt_loc [(0, .inr (some a0)), (1, .inl a1), (2, .inl x92)] (List.forall_mem_cons.mpr ⟨(.tail _ (.head _)), List.forall_mem_cons.mpr ⟨(.tail _ (.tail _ (.head _))), List.forall_mem_cons.mpr ⟨(.head _), fun _ z => absurd z List.not_mem_nil⟩⟩⟩) ?_
  exact B2 9 a0 ta0 a1 x92 (by omega) (by omega) (by omega)
abbrev mX4_labelsInUse : tM := (RX4, cX4_labelsInUse, 3, 0, 0, false)
set_option maxHeartbeats 4000000 in
theorem g_X4_labelsInUse {l : Launch} {D : va_G} {N : Nat} {pk : Int} {τ : List Nat} (hN2 : 2 ≤ N) (hN8 : N ≤ 8) (hp0 : 0 ≤ pk) (hp64 : pk ≤ 64) {h : List tC} (hw : WT N pk τ h) (a0 : Nat) (ta0 : τ[a0]? = some 4) : TMc l D yX4_labelsInUse cX4_labelsInUse 3 (some .int) 0 0 0 0 [.inr (some a0)] h (fun rv h' => h = h' ∧ ∃ x : Int32, rv = some (.inl x) ∧ -2147483648 ≤ x.toInt ∧ x.toInt ≤ 2147483647) := by
  refine tmc_of false rfl (by decide) (Nat.le_of_ble_eq_true rfl) ?_
  suffices HQ : ∀ Q0, Q0 = tRt cX4_labelsInUse (some .int) (fun rv h' => h = h' ∧ ∃ x : Int32, rv = some (.inl x) ∧ -2147483648 ≤ x.toInt ∧ x.toInt ≤ 2147483647) → TT l D mX4_labelsInUse Q0 0 0 0 [(0, .inr (some a0))] [] h from HQ _ rfl
  intro Q0 hQ
  have B5 : ∀ (n5 : Nat) (q447 : Nat) (tq447 : τ[q447]? = some 4) (x448 : Int32) (x449 : Int32) (lx449 : 16 ≤ x449.toInt) (ux449 : x449.toInt ≤ 80), 80 - x449.toInt < n5 → TT l D mX4_labelsInUse Q0 0 0 5 [(0, .inr (some q447)), (1, .inl x448), (2, .inl x449)] [] h := by
    intro n5
    induction n5 with
    | zero =>
      intro q447 tq447 x448 x449 lx449 ux449 hn5
      exfalso
      omega
    | succ n5 ih5 =>
      intro q447 tq447 x448 x449 lx449 ux449 hn5
      have bx448 := i_ty x448
      have B24 : ∀ (q450 : Nat) (tq450 : τ[q450]? = some 4) (x451 : Int32) (x452 : Int32) (lx452 : 16 ≤ x452.toInt) (ux452 : x452.toInt ≤ 79) (hn5 : 80 - x452.toInt < ((n5 + 1 : Nat) : Int)), TT l D mX4_labelsInUse Q0 0 0 24 [(0, .inr (some q450)), (1, .inl x451), (2, .inl x452)] [] h := by
        intro q450 tq450 x451 x452 lx452 ux452 hn5
        have bx451 := i_ty x451
        refine tw_iinc (pc := 24) dX4_labelsInUse_24 (.tail _ (.tail _ (.head _))) (by decide) (by decide) (by omega) (fun x453 ex453 => ?_)
        show TT _ _ _ _ _ _ _ [(2, .inl x453), (0, .inr (some q450)), (1, .inl x451)] _ _
        refine tt_goto (tgt := 5) (pc := 27) dX4_labelsInUse_27 (by decide) ?_
        refine tt_loc [(0, .inr (some q450)), (1, .inl x451), (2, .inl x453)] (List.forall_mem_cons.mpr ⟨(.tail _ (.head _)), List.forall_mem_cons.mpr ⟨(.tail _ (.tail _ (.head _))), List.forall_mem_cons.mpr ⟨(.head _), fun _ z => absurd z List.not_mem_nil⟩⟩⟩) ?_
        exact ih5 q450 tq450 x451 x453 (by omega) (by omega) (by omega)
      refine tt_iload_n (pc := 5) dX4_labelsInUse_5 (.tail _ (.tail _ (.head _))) ?_
      refine tw_bipush (pc := 6) dX4_labelsInUse_6 (by decide) (fun x454 ex454 => ?_)
      refine tw_icmp (tgt := 30) (pc := 8) dX4_labelsInUse_8 (by decide) (fun (c455 : x454.toInt ≤ x449.toInt) => ?_) (fun (c455 : ¬ (x454.toInt ≤ x449.toInt)) => ?_)
      · skip
        refine tt_iload_n (pc := 30) dX4_labelsInUse_30 (.tail _ (.head _)) ?_
        refine tt_stop ?_
        rw [hQ]
        exact Or.inr (Or.inl ⟨x448, dX4_labelsInUse_31, rfl, Or.inl rfl, rfl, x448, rfl, by omega, by omega⟩)
      · skip
        refine tt_aload_n (pc := 11) dX4_labelsInUse_11 (.head _) ?_
        refine tw_getr (pc := 12) dX4_labelsInUse_12 flX4_35 hw tq447 (by decide) rfl (fun f456 q457 ef456 gf456 tq457 => ?_)
        refine tt_iload_n (pc := 15) dX4_labelsInUse_15 (.tail _ (.tail _ (.head _))) ?_
        refine tw_ild (pc := 16) dX4_labelsInUse_16 hw tq457 rfl (by omega) (by omega) (fun f459 x458 ef459 gf459 lx458 ux458 => ?_)
        refine tw_iconst (pc := 17) dX4_labelsInUse_17 (by decide) (fun x460 ex460 => ?_)
        refine tw_icmp (tgt := 24) (pc := 18) dX4_labelsInUse_18 (by decide) (fun (c461 : x458.toInt = x460.toInt) => ?_) (fun (c461 : ¬ (x458.toInt = x460.toInt)) => ?_)
        · skip
          refine tt_loc [(0, .inr (some q447)), (1, .inl x448), (2, .inl x449)] (List.forall_mem_cons.mpr ⟨(.head _), List.forall_mem_cons.mpr ⟨(.tail _ (.head _)), List.forall_mem_cons.mpr ⟨(.tail _ (.tail _ (.head _))), fun _ z => absurd z List.not_mem_nil⟩⟩⟩) ?_
          exact B24 q447 tq447 x448 x449 (by omega) (by omega) (by omega)
        · skip
          refine tw_iincA (pc := 21) dX4_labelsInUse_21 (.tail _ (.head _)) (by decide) (fun x462 => ?_)
          show TT _ _ _ _ _ _ _ [(1, .inl x462), (0, .inr (some q447)), (2, .inl x449)] _ _
          have bx462 := i_ty x462
          refine tt_loc [(0, .inr (some q447)), (1, .inl x462), (2, .inl x449)] (List.forall_mem_cons.mpr ⟨(.tail _ (.head _)), List.forall_mem_cons.mpr ⟨(.head _), List.forall_mem_cons.mpr ⟨(.tail _ (.tail _ (.head _))), fun _ z => absurd z List.not_mem_nil⟩⟩⟩) ?_
          exact B24 q447 tq447 x462 x449 (by omega) (by omega) (by omega)
  refine tw_iconst (pc := 0) dX4_labelsInUse_0 (by decide) (fun x463 ex463 => ?_)
  refine tt_istore_n (pc := 1) dX4_labelsInUse_1 (by decide) ?_
  show TT _ _ _ _ _ _ _ [(1, .inl x463), (0, .inr (some a0))] _ _
  refine tw_bipush (pc := 2) dX4_labelsInUse_2 (by decide) (fun x464 ex464 => ?_)
  refine tt_istore_n (pc := 4) dX4_labelsInUse_4 (by decide) ?_
  show TT _ _ _ _ _ _ _ [(2, .inl x464), (1, .inl x463), (0, .inr (some a0))] _ _
  refine tt_loc [(0, .inr (some a0)), (1, .inl x463), (2, .inl x464)] (List.forall_mem_cons.mpr ⟨(.tail _ (.tail _ (.head _))), List.forall_mem_cons.mpr ⟨(.tail _ (.head _)), List.forall_mem_cons.mpr ⟨(.head _), fun _ z => absurd z List.not_mem_nil⟩⟩⟩) ?_
  exact B5 65 a0 ta0 x463 x464 (by omega) (by omega) (by omega)
