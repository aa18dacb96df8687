abbrev mX4_forgetDistances : tM := (RX4, cX4_forgetDistances, 3, 0, 0, false)
set_option maxHeartbeats 4000000 in
theorem g_X4_forgetDistances {l : Launch} {D : va_G} {N : Nat} {pk : Int} {τ : List Nat} (hN2 : 2 ≤ N) (hN8 : N ≤ 8) (hp0 : 0 ≤ pk) (hp64 : pk ≤ 64) {h : List tC} (hw : WT N pk τ h) (a0 : Nat) (ta0 : τ[a0]? = some 4) : TMc l D yX4_forgetDistances cX4_forgetDistances 3 none 0 0 0 0 [.inr (some a0)] h (fun rv h' => WT N pk τ h' ∧ Fr PX τ h h' ∧ rv = none) := by
  refine tmc_of false rfl (by decide) (Nat.le_of_ble_eq_true rfl) ?_
  suffices HQ : ∀ Q0, Q0 = tRt cX4_forgetDistances none (fun rv h' => WT N pk τ h' ∧ Fr PX τ h h' ∧ rv = none) → TT l D mX4_forgetDistances Q0 0 0 0 [(0, .inr (some a0))] [] h from HQ _ rfl
  intro Q0 hQ
  have hf : Fr PX τ h h := Fr.rf
  have B2 : ∀ (n2 : Nat) (hb : List tC) (hwb : WT N pk τ hb) (hfb : Fr PX τ h hb) (x236 : Int32) (lx236 : 0 ≤ x236.toInt) (ux236 : x236.toInt ≤ 8), 8 - x236.toInt < n2 → TT l D mX4_forgetDistances Q0 0 0 2 [(0, .inr (some a0)), (1, .inl x236)] [] hb := by
    intro n2
    induction n2 with
    | zero =>
      intro hb hwb hfb x236 lx236 ux236 hn2
      exfalso
      omega
    | succ n2 ih2 =>
      intro hb hwb hfb x236 lx236 ux236 hn2
      have B10 : ∀ (n10 : Nat) (hb : List tC) (hwb : WT N pk τ hb) (hfb : Fr PX τ h hb) (x237 : Int32) (lx237 : 0 ≤ x237.toInt) (ux237 : x237.toInt ≤ 7) (x238 : Int32) (lx238 : 0 ≤ x238.toInt) (ux238 : x238.toInt ≤ 8) (hn2 : 8 - x237.toInt < ((n2 + 1 : Nat) : Int)), 8 - x238.toInt < n10 → TT l D mX4_forgetDistances Q0 0 0 10 [(0, .inr (some a0)), (1, .inl x237), (2, .inl x238)] [] hb := by
        intro n10
        induction n10 with
        | zero =>
          intro hb hwb hfb x237 lx237 ux237 x238 lx238 ux238 hn2 hn10
          exfalso
          omega
        | succ n10 ih10 =>
          intro hb hwb hfb x237 lx237 ux237 x238 lx238 ux238 hn2 hn10
          refine tt_iload_n (pc := 10) dX4_forgetDistances_10 (.tail _ (.tail _ (.head _))) ?_
          refine tw_bipush (pc := 11) dX4_forgetDistances_11 (by decide) (fun x239 ex239 => ?_)
          refine tw_icmp (tgt := 41) (pc := 13) dX4_forgetDistances_13 (by decide) (fun (c240 : x239.toInt ≤ x238.toInt) => ?_) (fun (c240 : ¬ (x239.toInt ≤ x238.toInt)) => ?_)
          · skip
            refine tw_iinc (pc := 41) dX4_forgetDistances_41 (.tail _ (.head _)) (by decide) (by decide) (by omega) (fun x241 ex241 => ?_)
            show TT _ _ _ _ _ _ _ [(1, .inl x241), (0, .inr (some a0)), (2, .inl x238)] _ _
            refine tt_goto (tgt := 2) (pc := 44) dX4_forgetDistances_44 (by decide) ?_
            refine tt_loc [(0, .inr (some a0)), (1, .inl x241)] (List.forall_mem_cons.mpr ⟨(.tail _ (.head _)), List.forall_mem_cons.mpr ⟨(.head _), fun _ z => absurd z List.not_mem_nil⟩⟩) ?_
            exact ih2 hb hwb hfb x241 (by omega) (by omega) (by omega)
          · skip
            refine tt_aload_n (pc := 16) dX4_forgetDistances_16 (.head _) ?_
            refine tw_getr (pc := 17) dX4_forgetDistances_17 flX4_19 hwb ta0 (by decide) rfl (fun f242 q243 ef242 gf242 tq243 => ?_)
            refine tt_iload_n (pc := 20) dX4_forgetDistances_20 (.tail _ (.head _)) ?_
            refine tw_ald (pc := 21) dX4_forgetDistances_21 hwb tq243 rfl (by decide) (by omega) (by omega) (fun f244 q245 ef244 gf244 tq245 => ?_)
            refine tt_iload_n (pc := 22) dX4_forgetDistances_22 (.tail _ (.tail _ (.head _))) ?_
            refine tt_iload_n (pc := 23) dX4_forgetDistances_23 (.tail _ (.head _)) ?_
            refine tt_iload_n (pc := 24) dX4_forgetDistances_24 (.tail _ (.tail _ (.head _))) ?_
            refine tw_icmp (tgt := 32) (pc := 25) dX4_forgetDistances_25 (by decide) (fun (c246 : x237.toInt ≠ x238.toInt) => ?_) (fun (c246 : ¬ (x237.toInt ≠ x238.toInt)) => ?_)
            · skip
              refine tw_ldc (n := 1000000) (pc := 32) dX4_forgetDistances_32 rfl kcX4_58 (by decide) (fun x247 ex247 => ?_)
              refine tw_ist (P := PX) (pc := 34) dX4_forgetDistances_34 hwb tq245 rfl (by omega) (by omega) (by omega) (by omega) (by decide) (fun f248 h249 eh249 gh249 kh249 wh249 fh249 => ?_)
              have hfh249 := hfb.tr fh249
              refine tw_iinc (pc := 35) dX4_forgetDistances_35 (.tail _ (.tail _ (.head _))) (by decide) (by decide) (by omega) (fun x250 ex250 => ?_)
              show TT _ _ _ _ _ _ _ [(2, .inl x250), (0, .inr (some a0)), (1, .inl x237)] _ _
              refine tt_goto (tgt := 10) (pc := 38) dX4_forgetDistances_38 (by decide) ?_
              refine tt_loc [(0, .inr (some a0)), (1, .inl x237), (2, .inl x250)] (List.forall_mem_cons.mpr ⟨(.tail _ (.head _)), List.forall_mem_cons.mpr ⟨(.tail _ (.tail _ (.head _))), List.forall_mem_cons.mpr ⟨(.head _), fun _ z => absurd z List.not_mem_nil⟩⟩⟩) ?_
              exact ih10 h249 wh249 hfh249 x237 (by omega) (by omega) x250 (by omega) (by omega) (by omega) (by omega)
            · skip
              refine tw_iconst (pc := 28) dX4_forgetDistances_28 (by decide) (fun x251 ex251 => ?_)
              refine tt_goto (tgt := 34) (pc := 29) dX4_forgetDistances_29 (by decide) ?_
              refine tw_ist (P := PX) (pc := 34) dX4_forgetDistances_34 hwb tq245 rfl (by omega) (by omega) (by omega) (by omega) (by decide) (fun f252 h253 eh253 gh253 kh253 wh253 fh253 => ?_)
              have hfh253 := hfb.tr fh253
              refine tw_iinc (pc := 35) dX4_forgetDistances_35 (.tail _ (.tail _ (.head _))) (by decide) (by decide) (by omega) (fun x254 ex254 => ?_)
              show TT _ _ _ _ _ _ _ [(2, .inl x254), (0, .inr (some a0)), (1, .inl x237)] _ _
              refine tt_goto (tgt := 10) (pc := 38) dX4_forgetDistances_38 (by decide) ?_
              refine tt_loc [(0, .inr (some a0)), (1, .inl x237), (2, .inl x254)] (List.forall_mem_cons.mpr ⟨(.tail _ (.head _)), List.forall_mem_cons.mpr ⟨(.tail _ (.tail _ (.head _))), List.forall_mem_cons.mpr ⟨(.head _), fun _ z => absurd z List.not_mem_nil⟩⟩⟩) ?_
              exact ih10 h253 wh253 hfh253 x237 (by omega) (by omega) x254 (by omega) (by omega) (by omega) (by omega)
      refine tt_iload_n (pc := 2) dX4_forgetDistances_2 (.tail _ (.head _)) ?_
      refine tw_bipush (pc := 3) dX4_forgetDistances_3 (by decide) (fun x255 ex255 => ?_)
      refine tw_icmp (tgt := 47) (pc := 5) dX4_forgetDistances_5 (by decide) (fun (c256 : x255.toInt ≤ x236.toInt) => ?_) (fun (c256 : ¬ (x255.toInt ≤ x236.toInt)) => ?_)
      · skip
        refine tt_stop ?_
        rw [hQ]
        exact Or.inl ⟨dX4_forgetDistances_47, rfl, rfl, hwb, hfb, rfl⟩
      · skip
        refine tw_iconst (pc := 8) dX4_forgetDistances_8 (by decide) (fun x257 ex257 => ?_)
        refine tt_istore_n (pc := 9) dX4_forgetDistances_9 (by decide) ?_
        show TT _ _ _ _ _ _ _ [(2, .inl x257), (0, .inr (some a0)), (1, .inl x236)] _ _
        refine tt_loc [(0, .inr (some a0)), (1, .inl x236), (2, .inl x257)] (List.forall_mem_cons.mpr ⟨(.tail _ (.head _)), List.forall_mem_cons.mpr ⟨(.tail _ (.tail _ (.head _))), List.forall_mem_cons.mpr ⟨(.head _), fun _ z => absurd z List.not_mem_nil⟩⟩⟩) ?_
        exact B10 9 hb hwb hfb x236 (by omega) (by omega) x257 (by omega) (by omega) (by omega) (by omega)
  refine tw_iconst (pc := 0) dX4_forgetDistances_0 (by decide) (fun x258 ex258 => ?_)
  refine tt_istore_n (pc := 1) dX4_forgetDistances_1 (by decide) ?_
  show TT _ _ _ _ _ _ _ [(1, .inl x258), (0, .inr (some a0))] _ _
  refine tt_loc [(0, .inr (some a0)), (1, .inl x258)] (List.forall_mem_cons.mpr ⟨(.tail _ (.head _)), List.forall_mem_cons.mpr ⟨(.head _), fun _ z => absurd z List.not_mem_nil⟩⟩) ?_
  exact B2 9 h hw hf x258 (by omega) (by omega) (by omega)
abbrev mX4_takeStep : tM := (RX4, cX4_takeStep, 5, 1, 21, false)
set_option maxHeartbeats 4000000 in
theorem g_X4_takeStep {l : Launch} {D : va_G} {N : Nat} {pk : Int} {τ : List Nat} (hN2 : 2 ≤ N) (hN8 : N ≤ 8) (hp0 : 0 ≤ pk) (hp64 : pk ≤ 64) {h : List tC} (hw : WT N pk τ h) (a0 : Nat) (ta0 : τ[a0]? = some 4) (a1 : Int32) (la1 : 0 ≤ a1.toInt) (ua1 : a1.toInt ≤ 7) (a2 : Int32) (la2 : 0 ≤ a2.toInt) (ua2 : a2.toInt ≤ 7) (a3 : Int32) : TMc l D yX4_takeStep cX4_takeStep 5 none 1 21 0 0 [.inr (some a0), .inl a1, .inl a2, .inl a3] h (fun rv h' => WT N pk τ h' ∧ Fr PX τ h h' ∧ rv = none) := by
  refine tmc_of false rfl (by decide) (Nat.le_of_ble_eq_true rfl) ?_
  suffices HQ : ∀ Q0, Q0 = tRt cX4_takeStep none (fun rv h' => WT N pk τ h' ∧ Fr PX τ h h' ∧ rv = none) → TT l D mX4_takeStep Q0 0 0 0 [(0, .inr (some a0)), (1, .inl a1), (2, .inl a2), (3, .inl a3)] [] h from HQ _ rfl
  intro Q0 hQ
  have hf : Fr PX τ h h := Fr.rf
  have ba3 := i_ty a3
  refine tt_aload_n (pc := 0) dX4_takeStep_0 (.head _) ?_
  refine tw_getr (pc := 1) dX4_takeStep_1 flX4_19 hw ta0 (by decide) rfl (fun f16 q17 ef16 gf16 tq17 => ?_)
  refine tt_iload_n (pc := 4) dX4_takeStep_4 (.tail _ (.head _)) ?_
  refine tw_ald (pc := 5) dX4_takeStep_5 hw tq17 rfl (by decide) (by omega) (by omega) (fun f18 q19 ef18 gf18 tq19 => ?_)
  refine tt_iload_n (pc := 6) dX4_takeStep_6 (.tail _ (.tail _ (.head _))) ?_
  refine tw_ild (pc := 7) dX4_takeStep_7 hw tq19 rfl (by omega) (by omega) (fun f21 x20 ef21 gf21 lx20 ux20 => ?_)
  refine tt_iload_n (pc := 8) dX4_takeStep_8 (.tail _ (.tail _ (.tail _ (.head _)))) ?_
  refine tt_min (pc := 9) dX4_takeStep_9 mlX4_59 ms_min mi_math mc_min (by decide) (Nat.le_of_ble_eq_true rfl) ?_
  refine tw_minv (fun x22 ex22 => ?_)
  refine tt_istore (pc := 12) dX4_takeStep_12 (by decide) ?_
  show TT _ _ _ _ _ _ _ [(4, .inl x22), (0, .inr (some a0)), (1, .inl a1), (2, .inl a2), (3, .inl a3)] _ _
  refine tt_aload_n (pc := 14) dX4_takeStep_14 (.tail _ (.head _)) ?_
  refine tt_get (pc := 15) dX4_takeStep_15 flX4_19 ef16 gf16 ?_
  refine tt_iload_n (pc := 18) dX4_takeStep_18 (.tail _ (.tail _ (.head _))) ?_
  refine tt_aald (pc := 19) dX4_takeStep_19 ef18 (by decide) (i_nn (by omega)) gf18 ?_
  refine tt_iload_n (pc := 20) dX4_takeStep_20 (.tail _ (.tail _ (.tail _ (.head _)))) ?_
  refine tt_iload (pc := 21) dX4_takeStep_21 (.head _) ?_
  refine tw_ist (P := PX) (pc := 23) dX4_takeStep_23 hw tq19 rfl (by omega) (by omega) (by omega) (by omega) (by decide) (fun f23 h24 eh24 gh24 kh24 wh24 fh24 => ?_)
  have hfh24 := hf.tr fh24
  refine tt_aload_n (pc := 24) dX4_takeStep_24 (.tail _ (.head _)) ?_
  refine tw_getr (pc := 25) dX4_takeStep_25 flX4_19 wh24 ta0 (by decide) rfl (fun f25 q26 ef25 gf25 tq26 => ?_)
  refine tt_iload_n (pc := 28) dX4_takeStep_28 (.tail _ (.tail _ (.tail _ (.head _)))) ?_
  refine tw_ald (pc := 29) dX4_takeStep_29 wh24 tq26 rfl (by decide) (by omega) (by omega) (fun f27 q28 ef27 gf27 tq28 => ?_)
  refine tt_iload_n (pc := 30) dX4_takeStep_30 (.tail _ (.tail _ (.head _))) ?_
  refine tt_iload (pc := 31) dX4_takeStep_31 (.head _) ?_
  refine tw_ist (P := PX) (pc := 33) dX4_takeStep_33 wh24 tq28 rfl (by omega) (by omega) (by omega) (by omega) (by decide) (fun f29 h30 eh30 gh30 kh30 wh30 fh30 => ?_)
  have hfh30 := hfh24.tr fh30
  refine tt_stop ?_
  rw [hQ]
  exact Or.inl ⟨dX4_takeStep_34, rfl, rfl, wh30, hfh30, rfl⟩
abbrev mX4_joinAt : tM := (RX4, cX4_joinAt, 4, 1, 21, false)
set_option maxHeartbeats 4000000 in
theorem g_X4_joinAt {l : Launch} {D : va_G} {N : Nat} {pk : Int} {τ : List Nat} (hN2 : 2 ≤ N) (hN8 : N ≤ 8) (hp0 : 0 ≤ pk) (hp64 : pk ≤ 64) {h : List tC} (hw : WT N pk τ h) (a0 : Nat) (ta0 : τ[a0]? = some 4) (a1 : Int32) (la1 : 0 ≤ a1.toInt) (ua1 : a1.toInt ≤ 7) (a2 : Int32) (la2 : 0 ≤ a2.toInt) (ua2 : a2.toInt ≤ 7) : TMc l D yX4_joinAt cX4_joinAt 4 none 1 21 0 0 [.inr (some a0), .inl a1, .inl a2] h (fun rv h' => WT N pk τ h' ∧ Fr PX τ h h' ∧ rv = none) := by
  refine tmc_of false rfl (by decide) (Nat.le_of_ble_eq_true rfl) ?_
  suffices HQ : ∀ Q0, Q0 = tRt cX4_joinAt none (fun rv h' => WT N pk τ h' ∧ Fr PX τ h h' ∧ rv = none) → TT l D mX4_joinAt Q0 0 0 0 [(0, .inr (some a0)), (1, .inl a1), (2, .inl a2)] [] h from HQ _ rfl
  intro Q0 hQ
  have hf : Fr PX τ h h := Fr.rf
  have B2 : ∀ (n2 : Nat) (hb : List tC) (hwb : WT N pk τ hb) (hfb : Fr PX τ h hb) (x142 : Int32) (lx142 : 0 ≤ x142.toInt) (ux142 : x142.toInt ≤ 8), 8 - x142.toInt < n2 → TT l D mX4_joinAt Q0 0 0 2 [(0, .inr (some a0)), (1, .inl a1), (2, .inl a2), (3, .inl x142)] [] hb := by
    intro n2
    induction n2 with
    | zero =>
      intro hb hwb hfb x142 lx142 ux142 hn2
      exfalso
      omega
    | succ n2 ih2 =>
      intro hb hwb hfb x142 lx142 ux142 hn2
      refine tt_iload_n (pc := 2) dX4_joinAt_2 (.tail _ (.tail _ (.tail _ (.head _)))) ?_
      refine tw_bipush (pc := 3) dX4_joinAt_3 (by decide) (fun x143 ex143 => ?_)
      refine tw_icmp (tgt := 50) (pc := 5) dX4_joinAt_5 (by decide) (fun (c144 : x143.toInt ≤ x142.toInt) => ?_) (fun (c144 : ¬ (x143.toInt ≤ x142.toInt)) => ?_)
      · skip
        refine tt_stop ?_
        rw [hQ]
        exact Or.inl ⟨dX4_joinAt_50, rfl, rfl, hwb, hfb, rfl⟩
      · skip
        refine tt_aload_n (pc := 8) dX4_joinAt_8 (.head _) ?_
        refine tw_getr (pc := 9) dX4_joinAt_9 flX4_19 hwb ta0 (by decide) rfl (fun f145 q146 ef145 gf145 tq146 => ?_)
        refine tt_iload_n (pc := 12) dX4_joinAt_12 (.tail _ (.head _)) ?_
        refine tw_ald (pc := 13) dX4_joinAt_13 hwb tq146 rfl (by decide) (by omega) (by omega) (fun f147 q148 ef147 gf147 tq148 => ?_)
        refine tt_iload_n (pc := 14) dX4_joinAt_14 (.tail _ (.tail _ (.tail _ (.head _)))) ?_
        refine tt_aload_n (pc := 15) dX4_joinAt_15 (.head _) ?_
        refine tt_get (pc := 16) dX4_joinAt_16 flX4_19 ef145 gf145 ?_
        refine tt_iload_n (pc := 19) dX4_joinAt_19 (.tail _ (.head _)) ?_
        refine tt_aald (pc := 20) dX4_joinAt_20 ef147 (by decide) (i_nn (by omega)) gf147 ?_
        refine tt_iload_n (pc := 21) dX4_joinAt_21 (.tail _ (.tail _ (.tail _ (.head _)))) ?_
        refine tw_ild (pc := 22) dX4_joinAt_22 hwb tq148 rfl (by omega) (by omega) (fun f150 x149 ef150 gf150 lx149 ux149 => ?_)
        refine tt_aload_n (pc := 23) dX4_joinAt_23 (.head _) ?_
        refine tt_get (pc := 24) dX4_joinAt_24 flX4_19 ef145 gf145 ?_
        refine tt_iload_n (pc := 27) dX4_joinAt_27 (.tail _ (.head _)) ?_
        refine tt_aald (pc := 28) dX4_joinAt_28 ef147 (by decide) (i_nn (by omega)) gf147 ?_
        refine tt_iload_n (pc := 29) dX4_joinAt_29 (.tail _ (.tail _ (.head _))) ?_
        refine tw_ild (pc := 30) dX4_joinAt_30 hwb tq148 rfl (by omega) (by omega) (fun f152 x151 ef152 gf152 lx151 ux151 => ?_)
        refine tt_aload_n (pc := 31) dX4_joinAt_31 (.head _) ?_
        refine tt_get (pc := 32) dX4_joinAt_32 flX4_19 ef145 gf145 ?_
        refine tt_iload_n (pc := 35) dX4_joinAt_35 (.tail _ (.tail _ (.head _))) ?_
        refine tw_ald (pc := 36) dX4_joinAt_36 hwb tq146 rfl (by decide) (by omega) (by omega) (fun f153 q154 ef153 gf153 tq154 => ?_)
        refine tt_iload_n (pc := 37) dX4_joinAt_37 (.tail _ (.tail _ (.tail _ (.head _)))) ?_
        refine tw_ild (pc := 38) dX4_joinAt_38 hwb tq154 rfl (by omega) (by omega) (fun f156 x155 ef156 gf156 lx155 ux155 => ?_)
        refine tt_iadd (pc := 39) dX4_joinAt_39 ?_
        refine tw_any (fun x157 => ?_)
        have bx157 := i_ty x157
        refine tt_min (pc := 40) dX4_joinAt_40 mlX4_59 ms_min mi_math mc_min (by decide) (Nat.le_of_ble_eq_true rfl) ?_
        refine tw_minv (fun x158 ex158 => ?_)
        refine tw_ist (P := PX) (pc := 43) dX4_joinAt_43 hwb tq148 rfl (by omega) (by omega) (by omega) (by omega) (by decide) (fun f159 h160 eh160 gh160 kh160 wh160 fh160 => ?_)
        have hfh160 := hfb.tr fh160
        refine tw_iinc (pc := 44) dX4_joinAt_44 (.tail _ (.tail _ (.tail _ (.head _)))) (by decide) (by decide) (by omega) (fun x161 ex161 => ?_)
        show TT _ _ _ _ _ _ _ [(3, .inl x161), (0, .inr (some a0)), (1, .inl a1), (2, .inl a2)] _ _
        refine tt_goto (tgt := 2) (pc := 47) dX4_joinAt_47 (by decide) ?_
        refine tt_loc [(0, .inr (some a0)), (1, .inl a1), (2, .inl a2), (3, .inl x161)] (List.forall_mem_cons.mpr ⟨(.tail _ (.head _)), List.forall_mem_cons.mpr ⟨(.tail _ (.tail _ (.head _))), List.forall_mem_cons.mpr ⟨(.tail _ (.tail _ (.tail _ (.head _)))), List.forall_mem_cons.mpr ⟨(.head _), fun _ z => absurd z List.not_mem_nil⟩⟩⟩⟩) ?_
        exact ih2 h160 wh160 hfh160 x161 (by omega) (by omega) (by omega)
  refine tw_iconst (pc := 0) dX4_joinAt_0 (by decide) (fun x162 ex162 => ?_)
  refine tt_istore_n (pc := 1) dX4_joinAt_1 (by decide) ?_
  show TT _ _ _ _ _ _ _ [(3, .inl x162), (0, .inr (some a0)), (1, .inl a1), (2, .inl a2)] _ _
  refine tt_loc [(0, .inr (some a0)), (1, .inl a1), (2, .inl a2), (3, .inl x162)] (List.forall_mem_cons.mpr ⟨(.tail _ (.head _)), List.forall_mem_cons.mpr ⟨(.tail _ (.tail _ (.head _))), List.forall_mem_cons.mpr ⟨(.tail _ (.tail _ (.tail _ (.head _)))), List.forall_mem_cons.mpr ⟨(.head _), fun _ z => absurd z List.not_mem_nil⟩⟩⟩⟩) ?_
  exact B2 9 h hw hf x162 (by omega) (by omega) (by omega)
abbrev mX4_joinSteps : tM := (RX4, cX4_joinSteps, 3, 2, 44, false)
set_option maxHeartbeats 4000000 in
theorem g_X4_joinSteps {l : Launch} {D : va_G} {N : Nat} {pk : Int} {τ : List Nat} (hN2 : 2 ≤ N) (hN8 : N ≤ 8) (hp0 : 0 ≤ pk) (hp64 : pk ≤ 64) {h : List tC} (hw : WT N pk τ h) (a0 : Nat) (ta0 : τ[a0]? = some 4) : TMc l D yX4_joinSteps cX4_joinSteps 3 none 2 44 0 0 [.inr (some a0)] h (fun rv h' => WT N pk τ h' ∧ Fr PX τ h h' ∧ rv = none) := by
  refine tmc_of false rfl (by decide) (Nat.le_of_ble_eq_true rfl) ?_
  suffices HQ : ∀ Q0, Q0 = tRt cX4_joinSteps none (fun rv h' => WT N pk τ h' ∧ Fr PX τ h h' ∧ rv = none) → TT l D mX4_joinSteps Q0 0 0 0 [(0, .inr (some a0))] [] h from HQ _ rfl
  intro Q0 hQ
  have hf : Fr PX τ h h := Fr.rf
  have B2 : ∀ (n2 : Nat) (hb : List tC) (hwb : WT N pk τ hb) (hfb : Fr PX τ h hb) (x225 : Int32) (lx225 : 0 ≤ x225.toInt) (ux225 : x225.toInt ≤ 8), 8 - x225.toInt < n2 → TT l D mX4_joinSteps Q0 0 0 2 [(0, .inr (some a0)), (1, .inl x225)] [] hb := by
    intro n2
    induction n2 with
    | zero =>
      intro hb hwb hfb x225 lx225 ux225 hn2
      exfalso
      omega
    | succ n2 ih2 =>
      intro hb hwb hfb x225 lx225 ux225 hn2
      have B10 : ∀ (n10 : Nat) (hb : List tC) (hwb : WT N pk τ hb) (hfb : Fr PX τ h hb) (x226 : Int32) (lx226 : 0 ≤ x226.toInt) (ux226 : x226.toInt ≤ 7) (x227 : Int32) (lx227 : 0 ≤ x227.toInt) (ux227 : x227.toInt ≤ 8) (hn2 : 8 - x226.toInt < ((n2 + 1 : Nat) : Int)), 8 - x227.toInt < n10 → TT l D mX4_joinSteps Q0 0 0 10 [(0, .inr (some a0)), (1, .inl x226), (2, .inl x227)] [] hb := by
        intro n10
        induction n10 with
        | zero =>
          intro hb hwb hfb x226 lx226 ux226 x227 lx227 ux227 hn2 hn10
          exfalso
          omega
        | succ n10 ih10 =>
          intro hb hwb hfb x226 lx226 ux226 x227 lx227 ux227 hn2 hn10
          have B35 : ∀ (hb : List tC) (hwb : WT N pk τ hb) (hfb : Fr PX τ h hb) (x228 : Int32) (lx228 : 0 ≤ x228.toInt) (ux228 : x228.toInt ≤ 7) (x229 : Int32) (lx229 : 0 ≤ x229.toInt) (ux229 : x229.toInt ≤ 7) (hn2 : 8 - x228.toInt < ((n2 + 1 : Nat) : Int)) (hn10 : 8 - x229.toInt < ((n10 + 1 : Nat) : Int)), TT l D mX4_joinSteps Q0 0 0 35 [(0, .inr (some a0)), (1, .inl x228), (2, .inl x229)] [] hb := by
            intro hb hwb hfb x228 lx228 ux228 x229 lx229 ux229 hn2 hn10
            refine tw_iinc (pc := 35) dX4_joinSteps_35 (.tail _ (.tail _ (.head _))) (by decide) (by decide) (by omega) (fun x230 ex230 => ?_)
            show TT _ _ _ _ _ _ _ [(2, .inl x230), (0, .inr (some a0)), (1, .inl x228)] _ _
            refine tt_goto (tgt := 10) (pc := 38) dX4_joinSteps_38 (by decide) ?_
            refine tt_loc [(0, .inr (some a0)), (1, .inl x228), (2, .inl x230)] (List.forall_mem_cons.mpr ⟨(.tail _ (.head _)), List.forall_mem_cons.mpr ⟨(.tail _ (.tail _ (.head _))), List.forall_mem_cons.mpr ⟨(.head _), fun _ z => absurd z List.not_mem_nil⟩⟩⟩) ?_
            exact ih10 hb hwb hfb x228 (by omega) (by omega) x230 (by omega) (by omega) (by omega) (by omega)
          refine tt_iload_n (pc := 10) dX4_joinSteps_10 (.tail _ (.tail _ (.head _))) ?_
          refine tw_bipush (pc := 11) dX4_joinSteps_11 (by decide) (fun x231 ex231 => ?_)
          refine tw_icmp (tgt := 41) (pc := 13) dX4_joinSteps_13 (by decide) (fun (c232 : x231.toInt ≤ x227.toInt) => ?_) (fun (c232 : ¬ (x231.toInt ≤ x227.toInt)) => ?_)
          · skip
            refine tw_iinc (pc := 41) dX4_joinSteps_41 (.tail _ (.head _)) (by decide) (by decide) (by omega) (fun x233 ex233 => ?_)
            show TT _ _ _ _ _ _ _ [(1, .inl x233), (0, .inr (some a0)), (2, .inl x227)] _ _
            refine tt_goto (tgt := 2) (pc := 44) dX4_joinSteps_44 (by decide) ?_
            refine tt_loc [(0, .inr (some a0)), (1, .inl x233)] (List.forall_mem_cons.mpr ⟨(.tail _ (.head _)), List.forall_mem_cons.mpr ⟨(.head _), fun _ z => absurd z List.not_mem_nil⟩⟩) ?_
            exact ih2 hb hwb hfb x233 (by omega) (by omega) (by omega)
          · skip
            refine tt_aload_n (pc := 16) dX4_joinSteps_16 (.head _) ?_
            refine tw_getr (pc := 17) dX4_joinSteps_17 flX4_19 hwb ta0 (by decide) rfl (fun f234 q235 ef234 gf234 tq235 => ?_)
            refine tt_iload_n (pc := 20) dX4_joinSteps_20 (.tail _ (.tail _ (.head _))) ?_
            refine tw_ald (pc := 21) dX4_joinSteps_21 hwb tq235 rfl (by decide) (by omega) (by omega) (fun f236 q237 ef236 gf236 tq237 => ?_)
            refine tt_iload_n (pc := 22) dX4_joinSteps_22 (.tail _ (.head _)) ?_
            refine tw_ild (pc := 23) dX4_joinSteps_23 hwb tq237 rfl (by omega) (by omega) (fun f239 x238 ef239 gf239 lx238 ux238 => ?_)
            refine tw_ldc (n := 1000000) (pc := 24) dX4_joinSteps_24 rfl kcX4_58 (by decide) (fun x240 ex240 => ?_)
            refine tw_icmp (tgt := 35) (pc := 26) dX4_joinSteps_26 (by decide) (fun (c241 : x240.toInt ≤ x238.toInt) => ?_) (fun (c241 : ¬ (x240.toInt ≤ x238.toInt)) => ?_)
            · skip
              refine tt_loc [(0, .inr (some a0)), (1, .inl x226), (2, .inl x227)] (List.forall_mem_cons.mpr ⟨(.head _), List.forall_mem_cons.mpr ⟨(.tail _ (.head _)), List.forall_mem_cons.mpr ⟨(.tail _ (.tail _ (.head _))), fun _ z => absurd z List.not_mem_nil⟩⟩⟩) ?_
              exact B35 hb hwb hfb x226 (by omega) (by omega) x227 (by omega) (by omega) (by omega) (by omega)
            · skip
              refine tt_aload_n (pc := 29) dX4_joinSteps_29 (.head _) ?_
              refine tt_iload_n (pc := 30) dX4_joinSteps_30 (.tail _ (.tail _ (.head _))) ?_
              refine tt_iload_n (pc := 31) dX4_joinSteps_31 (.tail _ (.head _)) ?_
              refine tw_callV (kc := 0) (ks := 0) (mc := 0) (ms := 0) (as := [.inl x227, .inl x226]) (st := []) (pc := 32) hwb ta0 (by decide) dX4_joinSteps_32 lkX4_65 imX4_joinAt seX4_joinAt rfl rfl (by decide) (by decide) (Nat.le_of_ble_eq_true rfl) (g_X4_joinAt hN2 hN8 hp0 hp64 hwb a0 ta0 x227 (by omega) (by omega) x226 (by omega) (by omega)) (fun rv h242 qh242 => ?_)
              obtain ⟨wh242, fh242, rfl⟩ := qh242
              have hfh242 := hfb.tr fh242
              show TT _ _ _ _ _ _ _ _ [] _
              refine tt_loc [(0, .inr (some a0)), (1, .inl x226), (2, .inl x227)] (List.forall_mem_cons.mpr ⟨(.head _), List.forall_mem_cons.mpr ⟨(.tail _ (.head _)), List.forall_mem_cons.mpr ⟨(.tail _ (.tail _ (.head _))), fun _ z => absurd z List.not_mem_nil⟩⟩⟩) ?_
              exact B35 h242 wh242 hfh242 x226 (by omega) (by omega) x227 (by omega) (by omega) (by omega) (by omega)
      refine tt_iload_n (pc := 2) dX4_joinSteps_2 (.tail _ (.head _)) ?_
      refine tw_bipush (pc := 3) dX4_joinSteps_3 (by decide) (fun x243 ex243 => ?_)
      refine tw_icmp (tgt := 47) (pc := 5) dX4_joinSteps_5 (by decide) (fun (c244 : x243.toInt ≤ x225.toInt) => ?_) (fun (c244 : ¬ (x243.toInt ≤ x225.toInt)) => ?_)
      · skip
        refine tt_stop ?_
        rw [hQ]
        exact Or.inl ⟨dX4_joinSteps_47, rfl, rfl, hwb, hfb, rfl⟩
      · skip
        refine tw_iconst (pc := 8) dX4_joinSteps_8 (by decide) (fun x245 ex245 => ?_)
        refine tt_istore_n (pc := 9) dX4_joinSteps_9 (by decide) ?_
        show TT _ _ _ _ _ _ _ [(2, .inl x245), (0, .inr (some a0)), (1, .inl x225)] _ _
        refine tt_loc [(0, .inr (some a0)), (1, .inl x225), (2, .inl x245)] (List.forall_mem_cons.mpr ⟨(.tail _ (.head _)), List.forall_mem_cons.mpr ⟨(.tail _ (.tail _ (.head _))), List.forall_mem_cons.mpr ⟨(.head _), fun _ z => absurd z List.not_mem_nil⟩⟩⟩) ?_
        exact B10 9 hb hwb hfb x225 (by omega) (by omega) x245 (by omega) (by omega) (by omega) (by omega)
  refine tw_iconst (pc := 0) dX4_joinSteps_0 (by decide) (fun x246 ex246 => ?_)
  refine tt_istore_n (pc := 1) dX4_joinSteps_1 (by decide) ?_
  show TT _ _ _ _ _ _ _ [(1, .inl x246), (0, .inr (some a0))] _ _
  refine tt_loc [(0, .inr (some a0)), (1, .inl x246)] (List.forall_mem_cons.mpr ⟨(.tail _ (.head _)), List.forall_mem_cons.mpr ⟨(.head _), fun _ z => absurd z List.not_mem_nil⟩⟩) ?_
  exact B2 9 h hw hf x246 (by omega) (by omega) (by omega)
abbrev mX4_egress : tM := (RX4, cX4_egress, 4, 0, 0, false)
set_option maxHeartbeats 4000000 in
theorem g_X4_egress {l : Launch} {D : va_G} {N : Nat} {pk : Int} {τ : List Nat} (hN2 : 2 ≤ N) (hN8 : N ≤ 8) (hp0 : 0 ≤ pk) (hp64 : pk ≤ 64) {h : List tC} (hw : WT N pk τ h) (a0 : Nat) (ta0 : τ[a0]? = some 4) (a1 : Int32) : TMc l D yX4_egress cX4_egress 4 (some .int) 0 0 0 0 [.inr (some a0), .inl a1] h (fun rv h' => h = h' ∧ ∃ x : Int32, rv = some (.inl x) ∧ -1 ≤ x.toInt ∧ x.toInt ≤ 7) := by
  refine tmc_of false rfl (by decide) (Nat.le_of_ble_eq_true rfl) ?_
  suffices HQ : ∀ Q0, Q0 = tRt cX4_egress (some .int) (fun rv h' => h = h' ∧ ∃ x : Int32, rv = some (.inl x) ∧ -1 ≤ x.toInt ∧ x.toInt ≤ 7) → TT l D mX4_egress Q0 0 0 0 [(0, .inr (some a0)), (1, .inl a1)] [] h from HQ _ rfl
  intro Q0 hQ
  have B2 : ∀ (n2 : Nat) (x197 : Int32) (lx197 : 0 ≤ x197.toInt) (ux197 : x197.toInt ≤ 8), 8 - x197.toInt < n2 → TT l D mX4_egress Q0 0 0 2 [(0, .inr (some a0)), (1, .inl a1), (2, .inl x197)] [] h := by
    intro n2
    induction n2 with
    | zero =>
      intro x197 lx197 ux197 hn2
      exfalso
      omega
    | succ n2 ih2 =>
      intro x197 lx197 ux197 hn2
      have B49 : ∀ (x198 : Int32) (lx198 : 0 ≤ x198.toInt) (ux198 : x198.toInt ≤ 7) (hn2 : 8 - x198.toInt < ((n2 + 1 : Nat) : Int)), TT l D mX4_egress Q0 0 0 49 [(0, .inr (some a0)), (1, .inl a1), (2, .inl x198)] [] h := by
        intro x198 lx198 ux198 hn2
        refine tw_iinc (pc := 49) dX4_egress_49 (.tail _ (.tail _ (.head _))) (by decide) (by decide) (by omega) (fun x199 ex199 => ?_)
        show TT _ _ _ _ _ _ _ [(2, .inl x199), (0, .inr (some a0)), (1, .inl a1)] _ _
        refine tt_goto (tgt := 2) (pc := 52) dX4_egress_52 (by decide) ?_
        refine tt_loc [(0, .inr (some a0)), (1, .inl a1), (2, .inl x199)] (List.forall_mem_cons.mpr ⟨(.tail _ (.head _)), List.forall_mem_cons.mpr ⟨(.tail _ (.tail _ (.head _))), List.forall_mem_cons.mpr ⟨(.head _), fun _ z => absurd z List.not_mem_nil⟩⟩⟩) ?_
        exact ih2 x199 (by omega) (by omega) (by omega)
      refine tt_iload_n (pc := 2) dX4_egress_2 (.tail _ (.tail _ (.head _))) ?_
      refine tw_bipush (pc := 3) dX4_egress_3 (by decide) (fun x200 ex200 => ?_)
      refine tw_icmp (tgt := 55) (pc := 5) dX4_egress_5 (by decide) (fun (c201 : x200.toInt ≤ x197.toInt) => ?_) (fun (c201 : ¬ (x200.toInt ≤ x197.toInt)) => ?_)
      · skip
        refine tw_iconst (pc := 55) dX4_egress_55 (by decide) (fun x202 ex202 => ?_)
        refine tt_stop ?_
        rw [hQ]
        exact Or.inr (Or.inl ⟨x202, dX4_egress_56, rfl, Or.inl rfl, rfl, x202, rfl, by omega, by omega⟩)
      · skip
        refine tt_aload_n (pc := 8) dX4_egress_8 (.head _) ?_
        refine tw_getr (pc := 9) dX4_egress_9 flX4_11 hw ta0 (by decide) rfl (fun f203 q204 ef203 gf203 tq204 => ?_)
        refine tt_iload_n (pc := 12) dX4_egress_12 (.tail _ (.tail _ (.head _))) ?_
        refine tw_aldn (pc := 13) dX4_egress_13 hw tq204 rfl (by decide) (by omega) (by omega) (fun f205 o206 ef205 gf205 to206 => ?_)
        refine tt_astore_n (pc := 14) dX4_egress_14 (by decide) ?_
        show TT _ _ _ _ _ _ _ [(3, .inr o206), (0, .inr (some a0)), (1, .inl a1), (2, .inl x197)] _ _
        refine tt_aload_n (pc := 15) dX4_egress_15 (.head _) ?_
        refine tt_ifnull (tgt := 49) (pc := 16) dX4_egress_16 (by decide) (fun z207 => ?_) (fun q208 z207 => ?_)
        · subst z207
          refine tt_loc [(0, .inr (some a0)), (1, .inl a1), (2, .inl x197)] (List.forall_mem_cons.mpr ⟨(.tail _ (.head _)), List.forall_mem_cons.mpr ⟨(.tail _ (.tail _ (.head _))), List.forall_mem_cons.mpr ⟨(.tail _ (.tail _ (.tail _ (.head _)))), fun _ z => absurd z List.not_mem_nil⟩⟩⟩) ?_
          exact B49 x197 (by omega) (by omega) (by omega)
        · have tq208 := to206 q208 z207
          subst z207
          refine tt_aload_n (pc := 19) dX4_egress_19 (.head _) ?_
          refine tw_geti (pc := 20) dX4_egress_20 flX4_68 hw tq208 (by decide) rfl (fun f209 x210 ef209 gf209 lx210 ux210 => ?_)
          refine tt_iload_n (pc := 23) dX4_egress_23 (.tail _ (.tail _ (.head _))) ?_
          refine tt_ishr (pc := 24) dX4_egress_24 ?_
          refine tw_any (fun x211 => ?_)
          have bx211 := i_ty x211
          refine tw_iconst (pc := 25) dX4_egress_25 (by decide) (fun x212 ex212 => ?_)
          refine tt_iand (pc := 26) dX4_egress_26 ?_
          refine tw_any (fun x213 => ?_)
          have bx213 := i_ty x213
          refine tw_iconst (pc := 27) dX4_egress_27 (by decide) (fun x214 ex214 => ?_)
          refine tw_icmp (tgt := 49) (pc := 28) dX4_egress_28 (by decide) (fun (c215 : x213.toInt ≠ x214.toInt) => ?_) (fun (c215 : ¬ (x213.toInt ≠ x214.toInt)) => ?_)
          · skip
            refine tt_loc [(0, .inr (some a0)), (1, .inl a1), (2, .inl x197)] (List.forall_mem_cons.mpr ⟨(.tail _ (.head _)), List.forall_mem_cons.mpr ⟨(.tail _ (.tail _ (.head _))), List.forall_mem_cons.mpr ⟨(.tail _ (.tail _ (.tail _ (.head _)))), fun _ z => absurd z List.not_mem_nil⟩⟩⟩) ?_
            exact B49 x197 (by omega) (by omega) (by omega)
          · skip
            refine tt_aload_n (pc := 31) dX4_egress_31 (.tail _ (.head _)) ?_
            refine tw_getr (pc := 32) dX4_egress_32 flX4_19 hw ta0 (by decide) rfl (fun f216 q217 ef216 gf216 tq217 => ?_)
            refine tt_aload_n (pc := 35) dX4_egress_35 (.tail _ (.head _)) ?_
            refine tw_geti (pc := 36) dX4_egress_36 flX4_41 hw ta0 (by decide) rfl (fun f218 x219 ef218 gf218 lx219 ux219 => ?_)
            refine tw_ald (pc := 39) dX4_egress_39 hw tq217 rfl (by decide) (by omega) (by omega) (fun f220 q221 ef220 gf220 tq221 => ?_)
            refine tt_iload_n (pc := 40) dX4_egress_40 (.tail _ (.tail _ (.tail _ (.head _)))) ?_
            refine tw_ild (pc := 41) dX4_egress_41 hw tq221 rfl (by omega) (by omega) (fun f223 x222 ef223 gf223 lx222 ux222 => ?_)
            refine tw_ldc (n := 1000000) (pc := 42) dX4_egress_42 rfl kcX4_58 (by decide) (fun x224 ex224 => ?_)
            refine tw_icmp (tgt := 49) (pc := 44) dX4_egress_44 (by decide) (fun (c225 : x224.toInt ≤ x222.toInt) => ?_) (fun (c225 : ¬ (x224.toInt ≤ x222.toInt)) => ?_)
            · skip
              refine tt_loc [(0, .inr (some a0)), (1, .inl a1), (2, .inl x197)] (List.forall_mem_cons.mpr ⟨(.tail _ (.head _)), List.forall_mem_cons.mpr ⟨(.tail _ (.tail _ (.head _))), List.forall_mem_cons.mpr ⟨(.tail _ (.tail _ (.tail _ (.head _)))), fun _ z => absurd z List.not_mem_nil⟩⟩⟩) ?_
              exact B49 x197 (by omega) (by omega) (by omega)
            · skip
              refine tt_iload_n (pc := 47) dX4_egress_47 (.tail _ (.tail _ (.tail _ (.head _)))) ?_
              refine tt_stop ?_
              rw [hQ]
              exact Or.inr (Or.inl ⟨x197, dX4_egress_48, rfl, Or.inl rfl, rfl, x197, rfl, by omega, by omega⟩)
  have ba1 := i_ty a1
  refine tw_iconst (pc := 0) dX4_egress_0 (by decide) (fun x226 ex226 => ?_)
  refine tt_istore_n (pc := 1) dX4_egress_1 (by decide) ?_
  show TT _ _ _ _ _ _ _ [(2, .inl x226), (0, .inr (some a0)), (1, .inl a1)] _ _
  refine tt_loc [(0, .inr (some a0)), (1, .inl a1), (2, .inl x226)] (List.forall_mem_cons.mpr ⟨(.tail _ (.head _)), List.forall_mem_cons.mpr ⟨(.tail _ (.tail _ (.head _))), List.forall_mem_cons.mpr ⟨(.head _), fun _ z => absurd z List.not_mem_nil⟩⟩⟩) ?_
  exact B2 9 x226 (by omega) (by omega) (by omega)
abbrev mX4_forgetLink : tM := (RX4, cX4_forgetLink, 3, 2, 41, false)
set_option maxHeartbeats 4000000 in
theorem g_X4_forgetLink {l : Launch} {D : va_G} {N : Nat} {pk : Int} {τ : List Nat} (hN2 : 2 ≤ N) (hN8 : N ≤ 8) (hp0 : 0 ≤ pk) (hp64 : pk ≤ 64) {h : List tC} (hw : WT N pk τ h) (a0 : Nat) (ta0 : τ[a0]? = some 4) (a1 : Int32) (la1 : 0 ≤ a1.toInt) (ua1 : a1.toInt ≤ 11) : TMc l D yX4_forgetLink cX4_forgetLink 3 none 2 41 0 0 [.inr (some a0), .inl a1] h (fun rv h' => WT N pk τ h' ∧ Fr PX τ h h' ∧ rv = none) := by
  refine tmc_of false rfl (by decide) (Nat.le_of_ble_eq_true rfl) ?_
  suffices HQ : ∀ Q0, Q0 = tRt cX4_forgetLink none (fun rv h' => WT N pk τ h' ∧ Fr PX τ h h' ∧ rv = none) → TT l D mX4_forgetLink Q0 0 0 0 [(0, .inr (some a0)), (1, .inl a1)] [] h from HQ _ rfl
  intro Q0 hQ
  have hf : Fr PX τ h h := Fr.rf
  have B23 : ∀ (n23 : Nat) (hb : List tC) (hwb : WT N pk τ hb) (hfb : Fr PX τ h hb) (x182 : Int32) (lx182 : 16 ≤ x182.toInt) (ux182 : x182.toInt ≤ 80), 80 - x182.toInt < n23 → TT l D mX4_forgetLink Q0 0 0 23 [(0, .inr (some a0)), (1, .inl a1), (2, .inl x182)] [] hb := by
    intro n23
    induction n23 with
    | zero =>
      intro hb hwb hfb x182 lx182 ux182 hn23
      exfalso
      omega
    | succ n23 ih23 =>
      intro hb hwb hfb x182 lx182 ux182 hn23
      refine tt_iload_n (pc := 23) dX4_forgetLink_23 (.tail _ (.tail _ (.head _))) ?_
      refine tw_bipush (pc := 24) dX4_forgetLink_24 (by decide) (fun x183 ex183 => ?_)
      refine tw_icmp (tgt := 54) (pc := 26) dX4_forgetLink_26 (by decide) (fun (c184 : x183.toInt ≤ x182.toInt) => ?_) (fun (c184 : ¬ (x183.toInt ≤ x182.toInt)) => ?_)
      · skip
        refine tt_stop ?_
        rw [hQ]
        exact Or.inl ⟨dX4_forgetLink_54, rfl, rfl, hwb, hfb, rfl⟩
      · skip
        refine tt_aload_n (pc := 29) dX4_forgetLink_29 (.head _) ?_
        refine tw_getr (pc := 30) dX4_forgetLink_30 flX4_38 hwb ta0 (by decide) rfl (fun f185 q186 ef185 gf185 tq186 => ?_)
        refine tt_iload_n (pc := 33) dX4_forgetLink_33 (.tail _ (.tail _ (.head _))) ?_
        refine tt_dup2 (pc := 34) dX4_forgetLink_34 ?_
        refine tw_ild (pc := 35) dX4_forgetLink_35 hwb tq186 rfl (by omega) (by omega) (fun f188 x187 ef188 gf188 lx187 ux187 => ?_)
        refine tw_iconst (pc := 36) dX4_forgetLink_36 (by decide) (fun x189 ex189 => ?_)
        refine tt_iload_n (pc := 37) dX4_forgetLink_37 (.tail _ (.head _)) ?_
        refine tt_ishl (pc := 38) dX4_forgetLink_38 ?_
        refine tw_any (fun x190 => ?_)
        have bx190 := i_ty x190
        refine tw_iconst (pc := 39) dX4_forgetLink_39 (by decide) (fun x191 ex191 => ?_)
        refine tt_ixor (pc := 40) dX4_forgetLink_40 ?_
        refine tw_any (fun x192 => ?_)
        have bx192 := i_ty x192
        refine tt_iand (pc := 41) dX4_forgetLink_41 ?_
        refine tw_any (fun x193 => ?_)
        have bx193 := i_ty x193
        refine tw_ist (P := PX) (pc := 42) dX4_forgetLink_42 hwb tq186 rfl (by omega) (by omega) (by omega) (by omega) (by decide) (fun f194 h195 eh195 gh195 kh195 wh195 fh195 => ?_)
        have hfh195 := hfb.tr fh195
        refine tt_aload_n (pc := 43) dX4_forgetLink_43 (.head _) ?_
        refine tt_iload_n (pc := 44) dX4_forgetLink_44 (.tail _ (.tail _ (.head _))) ?_
        refine tw_callV (kc := 0) (ks := 0) (mc := 0) (ms := 0) (as := [.inl x182]) (st := []) (pc := 45) wh195 ta0 (by decide) dX4_forgetLink_45 lkX4_71 imX4_freeIfReleased seX4_freeIfReleased rfl rfl (by decide) (by decide) (Nat.le_of_ble_eq_true rfl) (g_X4_freeIfReleased hN2 hN8 hp0 hp64 wh195 a0 ta0 x182) (fun rv h196 qh196 => ?_)
        obtain ⟨wh196, fh196, rfl⟩ := qh196
        have hfh196 := hfh195.tr fh196
        show TT _ _ _ _ _ _ _ _ [] _
        refine tw_iinc (pc := 48) dX4_forgetLink_48 (.tail _ (.tail _ (.head _))) (by decide) (by decide) (by omega) (fun x197 ex197 => ?_)
        show TT _ _ _ _ _ _ _ [(2, .inl x197), (0, .inr (some a0)), (1, .inl a1)] _ _
        refine tt_goto (tgt := 23) (pc := 51) dX4_forgetLink_51 (by decide) ?_
        refine tt_loc [(0, .inr (some a0)), (1, .inl a1), (2, .inl x197)] (List.forall_mem_cons.mpr ⟨(.tail _ (.head _)), List.forall_mem_cons.mpr ⟨(.tail _ (.tail _ (.head _))), List.forall_mem_cons.mpr ⟨(.head _), fun _ z => absurd z List.not_mem_nil⟩⟩⟩) ?_
        exact ih23 h196 wh196 hfh196 x197 (by omega) (by omega) (by omega)
  have B2 : ∀ (n2 : Nat) (hb : List tC) (hwb : WT N pk τ hb) (hfb : Fr PX τ h hb) (x198 : Int32) (lx198 : 0 ≤ x198.toInt) (ux198 : x198.toInt ≤ 8), 8 - x198.toInt < n2 → TT l D mX4_forgetLink Q0 0 0 2 [(0, .inr (some a0)), (1, .inl a1), (2, .inl x198)] [] hb := by
    intro n2
    induction n2 with
    | zero =>
      intro hb hwb hfb x198 lx198 ux198 hn2
      exfalso
      omega
    | succ n2 ih2 =>
      intro hb hwb hfb x198 lx198 ux198 hn2
      refine tt_iload_n (pc := 2) dX4_forgetLink_2 (.tail _ (.tail _ (.head _))) ?_
      refine tw_bipush (pc := 3) dX4_forgetLink_3 (by decide) (fun x199 ex199 => ?_)
      refine tw_icmp (tgt := 20) (pc := 5) dX4_forgetLink_5 (by decide) (fun (c200 : x199.toInt ≤ x198.toInt) => ?_) (fun (c200 : ¬ (x199.toInt ≤ x198.toInt)) => ?_)
      · skip
        refine tw_bipush (pc := 20) dX4_forgetLink_20 (by decide) (fun x201 ex201 => ?_)
        refine tt_istore_n (pc := 22) dX4_forgetLink_22 (by decide) ?_
        show TT _ _ _ _ _ _ _ [(2, .inl x201), (0, .inr (some a0)), (1, .inl a1)] _ _
        refine tt_loc [(0, .inr (some a0)), (1, .inl a1), (2, .inl x201)] (List.forall_mem_cons.mpr ⟨(.tail _ (.head _)), List.forall_mem_cons.mpr ⟨(.tail _ (.tail _ (.head _))), List.forall_mem_cons.mpr ⟨(.head _), fun _ z => absurd z List.not_mem_nil⟩⟩⟩) ?_
        exact B23 65 hb hwb hfb x201 (by omega) (by omega) (by omega)
      · skip
        refine tt_aload_n (pc := 8) dX4_forgetLink_8 (.head _) ?_
        refine tt_iload_n (pc := 9) dX4_forgetLink_9 (.tail _ (.tail _ (.head _))) ?_
        refine tt_iload_n (pc := 10) dX4_forgetLink_10 (.tail _ (.head _)) ?_
        refine tw_callV (kc := 0) (ks := 0) (mc := 0) (ms := 0) (as := [.inl x198, .inl a1]) (st := []) (pc := 11) hwb ta0 (by decide) dX4_forgetLink_11 lkX4_51 imX4_forgetMapping seX4_forgetMapping rfl rfl (by decide) (by decide) (Nat.le_of_ble_eq_true rfl) (g_X4_forgetMapping hN2 hN8 hp0 hp64 hwb a0 ta0 x198 (by omega) (by omega) a1 (by omega) (by omega)) (fun rv h202 qh202 => ?_)
        obtain ⟨wh202, fh202, rfl⟩ := qh202
        have hfh202 := hfb.tr fh202
        show TT _ _ _ _ _ _ _ _ [] _
        refine tw_iinc (pc := 14) dX4_forgetLink_14 (.tail _ (.tail _ (.head _))) (by decide) (by decide) (by omega) (fun x203 ex203 => ?_)
        show TT _ _ _ _ _ _ _ [(2, .inl x203), (0, .inr (some a0)), (1, .inl a1)] _ _
        refine tt_goto (tgt := 2) (pc := 17) dX4_forgetLink_17 (by decide) ?_
        refine tt_loc [(0, .inr (some a0)), (1, .inl a1), (2, .inl x203)] (List.forall_mem_cons.mpr ⟨(.tail _ (.head _)), List.forall_mem_cons.mpr ⟨(.tail _ (.tail _ (.head _))), List.forall_mem_cons.mpr ⟨(.head _), fun _ z => absurd z List.not_mem_nil⟩⟩⟩) ?_
        exact ih2 h202 wh202 hfh202 x203 (by omega) (by omega) (by omega)
  refine tw_iconst (pc := 0) dX4_forgetLink_0 (by decide) (fun x204 ex204 => ?_)
  refine tt_istore_n (pc := 1) dX4_forgetLink_1 (by decide) ?_
  show TT _ _ _ _ _ _ _ [(2, .inl x204), (0, .inr (some a0)), (1, .inl a1)] _ _
  refine tt_loc [(0, .inr (some a0)), (1, .inl a1), (2, .inl x204)] (List.forall_mem_cons.mpr ⟨(.tail _ (.head _)), List.forall_mem_cons.mpr ⟨(.tail _ (.tail _ (.head _))), List.forall_mem_cons.mpr ⟨(.head _), fun _ z => absurd z List.not_mem_nil⟩⟩⟩) ?_
  exact B2 9 h hw hf x204 (by omega) (by omega) (by omega)
abbrev mX4_leastFreeLabel : tM := (RX4, cX4_leastFreeLabel, 2, 0, 0, false)
set_option maxHeartbeats 4000000 in
theorem g_X4_leastFreeLabel {l : Launch} {D : va_G} {N : Nat} {pk : Int} {τ : List Nat} (hN2 : 2 ≤ N) (hN8 : N ≤ 8) (hp0 : 0 ≤ pk) (hp64 : pk ≤ 64) {h : List tC} (hw : WT N pk τ h) (a0 : Nat) (ta0 : τ[a0]? = some 4) : TMc l D yX4_leastFreeLabel cX4_leastFreeLabel 2 (some .int) 0 0 0 0 [.inr (some a0)] h (fun rv h' => h = h' ∧ ∃ x : Int32, rv = some (.inl x) ∧ -1 ≤ x.toInt ∧ x.toInt ≤ 79) := by
  refine tmc_of false rfl (by decide) (Nat.le_of_ble_eq_true rfl) ?_
  suffices HQ : ∀ Q0, Q0 = tRt cX4_leastFreeLabel (some .int) (fun rv h' => h = h' ∧ ∃ x : Int32, rv = some (.inl x) ∧ -1 ≤ x.toInt ∧ x.toInt ≤ 79) → TT l D mX4_leastFreeLabel Q0 0 0 0 [(0, .inr (some a0))] [] h from HQ _ rfl
  intro Q0 hQ
  have B3 : ∀ (n3 : Nat) (x93 : Int32) (lx93 : 16 ≤ x93.toInt) (ux93 : x93.toInt ≤ 80), 80 - x93.toInt < n3 → TT l D mX4_leastFreeLabel Q0 0 0 3 [(0, .inr (some a0)), (1, .inl x93)] [] h := by
    intro n3
    induction n3 with
    | zero =>
      intro x93 lx93 ux93 hn3
      exfalso
      omega
    | succ n3 ih3 =>
      intro x93 lx93 ux93 hn3
      refine tt_iload_n (pc := 3) dX4_leastFreeLabel_3 (.tail _ (.head _)) ?_
      refine tw_bipush (pc := 4) dX4_leastFreeLabel_4 (by decide) (fun x94 ex94 => ?_)
      refine tw_icmp (tgt := 27) (pc := 6) dX4_leastFreeLabel_6 (by decide) (fun (c95 : x94.toInt ≤ x93.toInt) => ?_) (fun (c95 : ¬ (x94.toInt ≤ x93.toInt)) => ?_)
      · skip
        refine tw_iconst (pc := 27) dX4_leastFreeLabel_27 (by decide) (fun x96 ex96 => ?_)
        refine tt_stop ?_
        rw [hQ]
        exact Or.inr (Or.inl ⟨x96, dX4_leastFreeLabel_28, rfl, Or.inl rfl, rfl, x96, rfl, by omega, by omega⟩)
      · skip
        refine tt_aload_n (pc := 9) dX4_leastFreeLabel_9 (.head _) ?_
        refine tw_getr (pc := 10) dX4_leastFreeLabel_10 flX4_35 hw ta0 (by decide) rfl (fun f97 q98 ef97 gf97 tq98 => ?_)
        refine tt_iload_n (pc := 13) dX4_leastFreeLabel_13 (.tail _ (.head _)) ?_
        refine tw_ild (pc := 14) dX4_leastFreeLabel_14 hw tq98 rfl (by omega) (by omega) (fun f100 x99 ef100 gf100 lx99 ux99 => ?_)
        refine tw_iconst (pc := 15) dX4_leastFreeLabel_15 (by decide) (fun x101 ex101 => ?_)
        refine tw_icmp (tgt := 21) (pc := 16) dX4_leastFreeLabel_16 (by decide) (fun (c102 : x99.toInt ≠ x101.toInt) => ?_) (fun (c102 : ¬ (x99.toInt ≠ x101.toInt)) => ?_)
        · skip
          refine tw_iinc (pc := 21) dX4_leastFreeLabel_21 (.tail _ (.head _)) (by decide) (by decide) (by omega) (fun x103 ex103 => ?_)
          show TT _ _ _ _ _ _ _ [(1, .inl x103), (0, .inr (some a0))] _ _
          refine tt_goto (tgt := 3) (pc := 24) dX4_leastFreeLabel_24 (by decide) ?_
          refine tt_loc [(0, .inr (some a0)), (1, .inl x103)] (List.forall_mem_cons.mpr ⟨(.tail _ (.head _)), List.forall_mem_cons.mpr ⟨(.head _), fun _ z => absurd z List.not_mem_nil⟩⟩) ?_
          exact ih3 x103 (by omega) (by omega) (by omega)
        · skip
          refine tt_iload_n (pc := 19) dX4_leastFreeLabel_19 (.tail _ (.head _)) ?_
          refine tt_stop ?_
          rw [hQ]
          exact Or.inr (Or.inl ⟨x93, dX4_leastFreeLabel_20, rfl, Or.inl rfl, rfl, x93, rfl, by omega, by omega⟩)
  refine tw_bipush (pc := 0) dX4_leastFreeLabel_0 (by decide) (fun x104 ex104 => ?_)
  refine tt_istore_n (pc := 2) dX4_leastFreeLabel_2 (by decide) ?_
  show TT _ _ _ _ _ _ _ [(1, .inl x104), (0, .inr (some a0))] _ _
  refine tt_loc [(0, .inr (some a0)), (1, .inl x104)] (List.forall_mem_cons.mpr ⟨(.tail _ (.head _)), List.forall_mem_cons.mpr ⟨(.head _), fun _ z => absurd z List.not_mem_nil⟩⟩) ?_
  exact B3 65 x104 (by omega) (by omega) (by omega)
abbrev mX4_labelFor : tM := (RX4, cX4_labelFor, 3, 1, 21, false)
set_option maxHeartbeats 4000000 in
theorem g_X4_labelFor {l : Launch} {D : va_G} {N : Nat} {pk : Int} {τ : List Nat} (hN2 : 2 ≤ N) (hN8 : N ≤ 8) (hp0 : 0 ≤ pk) (hp64 : pk ≤ 64) {h : List tC} (hw : WT N pk τ h) (a0 : Nat) (ta0 : τ[a0]? = some 4) (a1 : Int32) (a2 : Int32) : TMc l D yX4_labelFor cX4_labelFor 3 (some .int) 1 21 0 0 [.inr (some a0), .inl a1, .inl a2] h (fun rv h' => h = h' ∧ ∃ x : Int32, rv = some (.inl x) ∧ -2147483648 ≤ x.toInt ∧ x.toInt ≤ 2147483647) := by
  refine tmc_of false rfl (by decide) (Nat.le_of_ble_eq_true rfl) ?_
  suffices HQ : ∀ Q0, Q0 = tRt cX4_labelFor (some .int) (fun rv h' => h = h' ∧ ∃ x : Int32, rv = some (.inl x) ∧ -2147483648 ≤ x.toInt ∧ x.toInt ≤ 2147483647) → TT l D mX4_labelFor Q0 0 0 0 [(0, .inr (some a0)), (1, .inl a1), (2, .inl a2)] [] h from HQ _ rfl
  intro Q0 hQ
  have ba1 := i_ty a1
  have ba2 := i_ty a2
  refine tt_iload_n (pc := 0) dX4_labelFor_0 (.tail _ (.tail _ (.head _))) ?_
  refine tw_iconst (pc := 1) dX4_labelFor_1 (by decide) (fun x14 ex14 => ?_)
  refine tw_icmp (tgt := 7) (pc := 2) dX4_labelFor_2 (by decide) (fun (c15 : a2.toInt ≠ x14.toInt) => ?_) (fun (c15 : ¬ (a2.toInt ≠ x14.toInt)) => ?_)
  · skip
    refine tt_iload_n (pc := 7) dX4_labelFor_7 (.tail _ (.tail _ (.head _))) ?_
    refine tw_iconst (pc := 8) dX4_labelFor_8 (by decide) (fun x16 ex16 => ?_)
    refine tt_aload_n (pc := 9) dX4_labelFor_9 (.head _) ?_
    refine tw_geti (pc := 10) dX4_labelFor_10 flX4_41 hw ta0 (by decide) rfl (fun f17 x18 ef17 gf17 lx18 ux18 => ?_)
    refine tt_ishl (pc := 13) dX4_labelFor_13 ?_
    refine tw_any (fun x19 => ?_)
    have bx19 := i_ty x19
    refine tw_icmp (tgt := 19) (pc := 14) dX4_labelFor_14 (by decide) (fun (c20 : a2.toInt ≠ x19.toInt) => ?_) (fun (c20 : ¬ (a2.toInt ≠ x19.toInt)) => ?_)
    · skip
      refine tt_iload_n (pc := 19) dX4_labelFor_19 (.tail _ (.head _)) ?_
      refine tw_bipush (pc := 20) dX4_labelFor_20 (by decide) (fun x21 ex21 => ?_)
      refine tw_icmp (tgt := 29) (pc := 22) dX4_labelFor_22 (by decide) (fun (c22 : a1.toInt < x21.toInt) => ?_) (fun (c22 : ¬ (a1.toInt < x21.toInt)) => ?_)
      · skip
        refine tt_aload_n (pc := 29) dX4_labelFor_29 (.head _) ?_
        refine tw_callV (kc := 0) (ks := 0) (mc := 0) (ms := 0) (as := []) (st := []) (pc := 30) hw ta0 (by decide) dX4_labelFor_30 lkX4_75 imX4_leastFreeLabel seX4_leastFreeLabel rfl rfl (by decide) (by decide) (Nat.le_of_ble_eq_true rfl) (g_X4_leastFreeLabel hN2 hN8 hp0 hp64 hw a0 ta0) (fun rv h23 qh23 => ?_)
        obtain ⟨rfl, x24, rfl, lx24, ux24⟩ := qh23
        show TT _ _ _ _ _ _ _ _ [.inl x24] _
        refine tt_stop ?_
        rw [hQ]
        exact Or.inr (Or.inl ⟨x24, dX4_labelFor_33, rfl, Or.inl rfl, rfl, x24, rfl, by omega, by omega⟩)
      · skip
        refine tt_iload_n (pc := 25) dX4_labelFor_25 (.tail _ (.head _)) ?_
        refine tt_goto (tgt := 33) (pc := 26) dX4_labelFor_26 (by decide) ?_
        refine tt_stop ?_
        rw [hQ]
        exact Or.inr (Or.inl ⟨a1, dX4_labelFor_33, rfl, Or.inl rfl, rfl, a1, rfl, by omega, by omega⟩)
    · skip
      refine tw_iconst (pc := 17) dX4_labelFor_17 (by decide) (fun x25 ex25 => ?_)
      refine tt_stop ?_
      rw [hQ]
      exact Or.inr (Or.inl ⟨x25, dX4_labelFor_18, rfl, Or.inl rfl, rfl, x25, rfl, by omega, by omega⟩)
  · skip
    refine tw_iconst (pc := 5) dX4_labelFor_5 (by decide) (fun x26 ex26 => ?_)
    refine tt_stop ?_
    rw [hQ]
    exact Or.inr (Or.inl ⟨x26, dX4_labelFor_6, rfl, Or.inl rfl, rfl, x26, rfl, by omega, by omega⟩)
abbrev mX4_prefixOfLabel : tM := (RX4, cX4_prefixOfLabel, 3, 0, 0, false)
set_option maxHeartbeats 4000000 in
theorem g_X4_prefixOfLabel {l : Launch} {D : va_G} {N : Nat} {pk : Int} {τ : List Nat} (hN2 : 2 ≤ N) (hN8 : N ≤ 8) (hp0 : 0 ≤ pk) (hp64 : pk ≤ 64) {h : List tC} (hw : WT N pk τ h) (a0 : Nat) (ta0 : τ[a0]? = some 4) (a1 : Int32) : TMc l D yX4_prefixOfLabel cX4_prefixOfLabel 3 (some .int) 0 0 0 0 [.inr (some a0), .inl a1] h (fun rv h' => h = h' ∧ ∃ x : Int32, rv = some (.inl x) ∧ -1 ≤ x.toInt ∧ x.toInt ≤ 7) := by
  refine tmc_of false rfl (by decide) (Nat.le_of_ble_eq_true rfl) ?_
  suffices HQ : ∀ Q0, Q0 = tRt cX4_prefixOfLabel (some .int) (fun rv h' => h = h' ∧ ∃ x : Int32, rv = some (.inl x) ∧ -1 ≤ x.toInt ∧ x.toInt ≤ 7) → TT l D mX4_prefixOfLabel Q0 0 0 0 [(0, .inr (some a0)), (1, .inl a1)] [] h from HQ _ rfl
  intro Q0 hQ
  have B2 : ∀ (n2 : Nat) (x66 : Int32) (lx66 : 0 ≤ x66.toInt) (ux66 : x66.toInt ≤ 8), 8 - x66.toInt < n2 → TT l D mX4_prefixOfLabel Q0 0 0 2 [(0, .inr (some a0)), (1, .inl a1), (2, .inl x66)] [] h := by
    intro n2
    induction n2 with
    | zero =>
      intro x66 lx66 ux66 hn2
      exfalso
      omega
    | succ n2 ih2 =>
      intro x66 lx66 ux66 hn2
      refine tt_iload_n (pc := 2) dX4_prefixOfLabel_2 (.tail _ (.tail _ (.head _))) ?_
      refine tw_bipush (pc := 3) dX4_prefixOfLabel_3 (by decide) (fun x67 ex67 => ?_)
      refine tw_icmp (tgt := 26) (pc := 5) dX4_prefixOfLabel_5 (by decide) (fun (c68 : x67.toInt ≤ x66.toInt) => ?_) (fun (c68 : ¬ (x67.toInt ≤ x66.toInt)) => ?_)
      · skip
        refine tw_iconst (pc := 26) dX4_prefixOfLabel_26 (by decide) (fun x69 ex69 => ?_)
        refine tt_stop ?_
        rw [hQ]
        exact Or.inr (Or.inl ⟨x69, dX4_prefixOfLabel_27, rfl, Or.inl rfl, rfl, x69, rfl, by omega, by omega⟩)
      · skip
        refine tt_aload_n (pc := 8) dX4_prefixOfLabel_8 (.head _) ?_
        refine tw_getr (pc := 9) dX4_prefixOfLabel_9 flX4_28 hw ta0 (by decide) rfl (fun f70 q71 ef70 gf70 tq71 => ?_)
        refine tt_iload_n (pc := 12) dX4_prefixOfLabel_12 (.tail _ (.tail _ (.head _))) ?_
        refine tw_ild (pc := 13) dX4_prefixOfLabel_13 hw tq71 rfl (by omega) (by omega) (fun f73 x72 ef73 gf73 lx72 ux72 => ?_)
        refine tt_iload_n (pc := 14) dX4_prefixOfLabel_14 (.tail _ (.head _)) ?_
        refine tw_icmp (tgt := 20) (pc := 15) dX4_prefixOfLabel_15 (by decide) (fun (c74 : x72.toInt ≠ a1.toInt) => ?_) (fun (c74 : ¬ (x72.toInt ≠ a1.toInt)) => ?_)
        · skip
          refine tw_iinc (pc := 20) dX4_prefixOfLabel_20 (.tail _ (.tail _ (.head _))) (by decide) (by decide) (by omega) (fun x75 ex75 => ?_)
          show TT _ _ _ _ _ _ _ [(2, .inl x75), (0, .inr (some a0)), (1, .inl a1)] _ _
          refine tt_goto (tgt := 2) (pc := 23) dX4_prefixOfLabel_23 (by decide) ?_
          refine tt_loc [(0, .inr (some a0)), (1, .inl a1), (2, .inl x75)] (List.forall_mem_cons.mpr ⟨(.tail _ (.head _)), List.forall_mem_cons.mpr ⟨(.tail _ (.tail _ (.head _))), List.forall_mem_cons.mpr ⟨(.head _), fun _ z => absurd z List.not_mem_nil⟩⟩⟩) ?_
          exact ih2 x75 (by omega) (by omega) (by omega)
        · skip
          refine tt_iload_n (pc := 18) dX4_prefixOfLabel_18 (.tail _ (.tail _ (.head _))) ?_
          refine tt_stop ?_
          rw [hQ]
          exact Or.inr (Or.inl ⟨x66, dX4_prefixOfLabel_19, rfl, Or.inl rfl, rfl, x66, rfl, by omega, by omega⟩)
  have ba1 := i_ty a1
  refine tw_iconst (pc := 0) dX4_prefixOfLabel_0 (by decide) (fun x76 ex76 => ?_)
  refine tt_istore_n (pc := 1) dX4_prefixOfLabel_1 (by decide) ?_
  show TT _ _ _ _ _ _ _ [(2, .inl x76), (0, .inr (some a0)), (1, .inl a1)] _ _
  refine tt_loc [(0, .inr (some a0)), (1, .inl a1), (2, .inl x76)] (List.forall_mem_cons.mpr ⟨(.tail _ (.head _)), List.forall_mem_cons.mpr ⟨(.tail _ (.tail _ (.head _))), List.forall_mem_cons.mpr ⟨(.head _), fun _ z => absurd z List.not_mem_nil⟩⟩⟩) ?_
  exact B2 9 x76 (by omega) (by omega) (by omega)
abbrev mX4_labelsInUse : tM := (RX4, cX4_labelsInUse, 3, 0, 0, false)
set_option maxHeartbeats 4000000 in
theorem g_X4_labelsInUse {l : Launch} {D : va_G} {N : Nat} {pk : Int} {τ : List Nat} (hN2 : 2 ≤ N) (hN8 : N ≤ 8) (hp0 : 0 ≤ pk) (hp64 : pk ≤ 64) {h : List tC} (hw : WT N pk τ h) (a0 : Nat) (ta0 : τ[a0]? = some 4) : TMc l D yX4_labelsInUse cX4_labelsInUse 3 (some .int) 0 0 0 0 [.inr (some a0)] h (fun rv h' => h = h' ∧ ∃ x : Int32, rv = some (.inl x) ∧ -2147483648 ≤ x.toInt ∧ x.toInt ≤ 2147483647) := by
  refine tmc_of false rfl (by decide) (Nat.le_of_ble_eq_true rfl) ?_
  suffices HQ : ∀ Q0, Q0 = tRt cX4_labelsInUse (some .int) (fun rv h' => h = h' ∧ ∃ x : Int32, rv = some (.inl x) ∧ -2147483648 ≤ x.toInt ∧ x.toInt ≤ 2147483647) → TT l D mX4_labelsInUse Q0 0 0 0 [(0, .inr (some a0))] [] h from HQ _ rfl
  intro Q0 hQ
  have B5 : ∀ (n5 : Nat) (x392 : Int32) (x393 : Int32) (lx393 : 16 ≤ x393.toInt) (ux393 : x393.toInt ≤ 80), 80 - x393.toInt < n5 → TT l D mX4_labelsInUse Q0 0 0 5 [(0, .inr (some a0)), (1, .inl x392), (2, .inl x393)] [] h := by
    intro n5
    induction n5 with
    | zero =>
      intro x392 x393 lx393 ux393 hn5
      exfalso
      omega
    | succ n5 ih5 =>
      intro x392 x393 lx393 ux393 hn5
      have bx392 := i_ty x392
      have B24 : ∀ (x394 : Int32) (x395 : Int32) (lx395 : 16 ≤ x395.toInt) (ux395 : x395.toInt ≤ 79) (hn5 : 80 - x395.toInt < ((n5 + 1 : Nat) : Int)), TT l D mX4_labelsInUse Q0 0 0 24 [(0, .inr (some a0)), (1, .inl x394), (2, .inl x395)] [] h := by
        intro x394 x395 lx395 ux395 hn5
        have bx394 := i_ty x394
        refine tw_iinc (pc := 24) dX4_labelsInUse_24 (.tail _ (.tail _ (.head _))) (by decide) (by decide) (by omega) (fun x396 ex396 => ?_)
        show TT _ _ _ _ _ _ _ [(2, .inl x396), (0, .inr (some a0)), (1, .inl x394)] _ _
        refine tt_goto (tgt := 5) (pc := 27) dX4_labelsInUse_27 (by decide) ?_
        refine tt_loc [(0, .inr (some a0)), (1, .inl x394), (2, .inl x396)] (List.forall_mem_cons.mpr ⟨(.tail _ (.head _)), List.forall_mem_cons.mpr ⟨(.tail _ (.tail _ (.head _))), List.forall_mem_cons.mpr ⟨(.head _), fun _ z => absurd z List.not_mem_nil⟩⟩⟩) ?_
        exact ih5 x394 x396 (by omega) (by omega) (by omega)
      refine tt_iload_n (pc := 5) dX4_labelsInUse_5 (.tail _ (.tail _ (.head _))) ?_
      refine tw_bipush (pc := 6) dX4_labelsInUse_6 (by decide) (fun x397 ex397 => ?_)
      refine tw_icmp (tgt := 30) (pc := 8) dX4_labelsInUse_8 (by decide) (fun (c398 : x397.toInt ≤ x393.toInt) => ?_) (fun (c398 : ¬ (x397.toInt ≤ x393.toInt)) => ?_)
      · skip
        refine tt_iload_n (pc := 30) dX4_labelsInUse_30 (.tail _ (.head _)) ?_
        refine tt_stop ?_
        rw [hQ]
        exact Or.inr (Or.inl ⟨x392, dX4_labelsInUse_31, rfl, Or.inl rfl, rfl, x392, rfl, by omega, by omega⟩)
      · skip
        refine tt_aload_n (pc := 11) dX4_labelsInUse_11 (.head _) ?_
        refine tw_getr (pc := 12) dX4_labelsInUse_12 flX4_35 hw ta0 (by decide) rfl (fun f399 q400 ef399 gf399 tq400 => ?_)
        refine tt_iload_n (pc := 15) dX4_labelsInUse_15 (.tail _ (.tail _ (.head _))) ?_
        refine tw_ild (pc := 16) dX4_labelsInUse_16 hw tq400 rfl (by omega) (by omega) (fun f402 x401 ef402 gf402 lx401 ux401 => ?_)
        refine tw_iconst (pc := 17) dX4_labelsInUse_17 (by decide) (fun x403 ex403 => ?_)
        refine tw_icmp (tgt := 24) (pc := 18) dX4_labelsInUse_18 (by decide) (fun (c404 : x401.toInt = x403.toInt) => ?_) (fun (c404 : ¬ (x401.toInt = x403.toInt)) => ?_)
        · skip
          refine tt_loc [(0, .inr (some a0)), (1, .inl x392), (2, .inl x393)] (List.forall_mem_cons.mpr ⟨(.head _), List.forall_mem_cons.mpr ⟨(.tail _ (.head _)), List.forall_mem_cons.mpr ⟨(.tail _ (.tail _ (.head _))), fun _ z => absurd z List.not_mem_nil⟩⟩⟩) ?_
          exact B24 x392 x393 (by omega) (by omega) (by omega)
        · skip
          refine tw_iincA (pc := 21) dX4_labelsInUse_21 (.tail _ (.head _)) (by decide) (fun x405 => ?_)
          show TT _ _ _ _ _ _ _ [(1, .inl x405), (0, .inr (some a0)), (2, .inl x393)] _ _
          have bx405 := i_ty x405
          refine tt_loc [(0, .inr (some a0)), (1, .inl x405), (2, .inl x393)] (List.forall_mem_cons.mpr ⟨(.tail _ (.head _)), List.forall_mem_cons.mpr ⟨(.head _), List.forall_mem_cons.mpr ⟨(.tail _ (.tail _ (.head _))), fun _ z => absurd z List.not_mem_nil⟩⟩⟩) ?_
          exact B24 x405 x393 (by omega) (by omega) (by omega)
  refine tw_iconst (pc := 0) dX4_labelsInUse_0 (by decide) (fun x406 ex406 => ?_)
  refine tt_istore_n (pc := 1) dX4_labelsInUse_1 (by decide) ?_
  show TT _ _ _ _ _ _ _ [(1, .inl x406), (0, .inr (some a0))] _ _
  refine tw_bipush (pc := 2) dX4_labelsInUse_2 (by decide) (fun x407 ex407 => ?_)
  refine tt_istore_n (pc := 4) dX4_labelsInUse_4 (by decide) ?_
  show TT _ _ _ _ _ _ _ [(2, .inl x407), (1, .inl x406), (0, .inr (some a0))] _ _
  refine tt_loc [(0, .inr (some a0)), (1, .inl x406), (2, .inl x407)] (List.forall_mem_cons.mpr ⟨(.tail _ (.tail _ (.head _))), List.forall_mem_cons.mpr ⟨(.tail _ (.head _)), List.forall_mem_cons.mpr ⟨(.head _), fun _ z => absurd z List.not_mem_nil⟩⟩⟩) ?_
  exact B5 65 x406 x407 (by omega) (by omega) (by omega)
