set_option maxHeartbeats 4000000 in
theorem g_X7_egressE {l : Launch} {D : va_G} {N : Nat} {pk : Int} {τ : List Nat} (hN2 : 2 ≤ N) (hN8 : N ≤ 8) (hp0 : 0 ≤ pk) (hp64 : pk ≤ 64) {h : List tC} (hw : WT N pk τ h) (a0 : Nat) (ta0 : τ[a0]? = some 7) (a1 : Int32) (la1 : 0 ≤ a1.toInt) (ua1 : a1.toInt ≤ 7) (a2 : Int32) {F : Nat → Nat → Int} (hF : FV τ h F) : TMc l D yX7_egress cX7_egress 4 (some .int) 0 0 0 0 [.inr (some a0), .inl a1, .inl a2] h (fun rv h' => h = h' ∧ ∃ x : Int32, rv = some (.inl x) ∧ -1 ≤ x.toInt ∧ x.toInt ≤ (N : Int) - 1 ∧ (0 ≤ x.toInt → F a1.toInt.toNat x.toInt.toNat < 1000000)) := by
  refine tmc_of false rfl (by decide) (Nat.le_of_ble_eq_true rfl) ?_
  suffices HQ : ∀ Q0, Q0 = tRt cX7_egress (some .int) (fun rv h' => h = h' ∧ ∃ x : Int32, rv = some (.inl x) ∧ -1 ≤ x.toInt ∧ x.toInt ≤ (N : Int) - 1 ∧ (0 ≤ x.toInt → F a1.toInt.toNat x.toInt.toNat < 1000000)) → TT l D mX7_egress Q0 0 0 0 [(0, .inr (some a0)), (1, .inl a1), (2, .inl a2)] [] h from HQ _ rfl
  intro Q0 hQ
  have B2 : ∀ (n2 : Nat) (x196 : Int32) (lx196 : 0 ≤ x196.toInt) (ux196 : x196.toInt ≤ 8), 8 - x196.toInt < n2 → TT l D mX7_egress Q0 0 0 2 [(0, .inr (some a0)), (1, .inl a1), (2, .inl a2), (3, .inl x196)] [] h := by
    intro n2
    induction n2 with
    | zero =>
      intro x196 lx196 ux196 hn2
      exfalso
      omega
    | succ n2 ih2 =>
      intro x196 lx196 ux196 hn2
      refine tt_iload_n (pc := 2) dX7_egress_2 (.tail _ (.tail _ (.tail _ (.head _)))) ?_
      refine tt_aload_n (pc := 3) dX7_egress_3 (.head _) ?_
      refine tw_geti (pc := 4) dX7_egress_4 flX7_92 hw ta0 (by decide) rfl (fun f197 x198 ef197 gf197 lx198 ux198 => ?_)
      refine tw_icmp (tgt := 53) (pc := 7) dX7_egress_7 (by decide) (fun (c199 : x198.toInt ≤ x196.toInt) => ?_) (fun (c199 : ¬ (x198.toInt ≤ x196.toInt)) => ?_)
      · skip
        refine tw_iconst (pc := 53) dX7_egress_53 (by decide) (fun x200 ex200 => ?_)
        refine tt_stop ?_
        rw [hQ]
        exact Or.inr (Or.inl ⟨x200, dX7_egress_54, rfl, Or.inl rfl, rfl, x200, rfl, by omega, by omega, fun z => by exfalso; omega⟩)
      · skip
        refine tt_aload_n (pc := 10) dX7_egress_10 (.head _) ?_
        refine tw_getr (pc := 11) dX7_egress_11 flX7_35 hw ta0 (by decide) rfl (fun f201 q202 ef201 gf201 tq202 => ?_)
        refine tw_bipush (pc := 14) dX7_egress_14 (by decide) (fun x203 ex203 => ?_)
        refine tt_iload_n (pc := 16) dX7_egress_16 (.tail _ (.head _)) ?_
        refine tw_imul (c := 8) (pc := 17) dX7_egress_17 (by omega) (by omega) (fun x204 ex204 => ?_)
        refine tt_iload_n (pc := 18) dX7_egress_18 (.tail _ (.tail _ (.tail _ (.head _)))) ?_
        refine tw_iadd (pc := 19) dX7_egress_19 (by omega) (fun x205 ex205 => ?_)
        refine tw_ild (pc := 20) dX7_egress_20 hw tq202 rfl (by omega) (by omega) (fun f207 x206 ef207 gf207 lx206 ux206 => ?_)
        refine tt_iload_n (pc := 21) dX7_egress_21 (.tail _ (.tail _ (.head _))) ?_
        refine tt_ishr (pc := 22) dX7_egress_22 ?_
        refine tw_any (fun x208 => ?_)
        have bx208 := i_ty x208
        refine tw_iconst (pc := 23) dX7_egress_23 (by decide) (fun x209 ex209 => ?_)
        refine tt_iand (pc := 24) dX7_egress_24 ?_
        refine tw_any (fun x210 => ?_)
        have bx210 := i_ty x210
        refine tw_iconst (pc := 25) dX7_egress_25 (by decide) (fun x211 ex211 => ?_)
        refine tw_icmp (tgt := 47) (pc := 26) dX7_egress_26 (by decide) (fun (c212 : x210.toInt ≠ x211.toInt) => ?_) (fun (c212 : ¬ (x210.toInt ≠ x211.toInt)) => ?_)
        · skip
          refine tw_iinc (pc := 47) dX7_egress_47 (.tail _ (.tail _ (.tail _ (.head _)))) (by decide) (by decide) (by omega) (fun x213 ex213 => ?_)
          show TT _ _ _ _ _ _ _ [(3, .inl x213), (0, .inr (some a0)), (1, .inl a1), (2, .inl a2)] _ _
          refine tt_goto (tgt := 2) (pc := 50) dX7_egress_50 (by decide) ?_
          refine tt_loc [(0, .inr (some a0)), (1, .inl a1), (2, .inl a2), (3, .inl x213)] (List.forall_mem_cons.mpr ⟨(.tail _ (.head _)), List.forall_mem_cons.mpr ⟨(.tail _ (.tail _ (.head _))), List.forall_mem_cons.mpr ⟨(.tail _ (.tail _ (.tail _ (.head _)))), List.forall_mem_cons.mpr ⟨(.head _), fun _ z => absurd z List.not_mem_nil⟩⟩⟩⟩) ?_
          exact ih2 x213 (by omega) (by omega) (by omega)
        · skip
          refine tt_aload_n (pc := 29) dX7_egress_29 (.head _) ?_
          refine tw_getr (pc := 30) dX7_egress_30 flX7_89 hw ta0 (by decide) rfl (fun f214 q215 ef214 gf214 tq215 => ?_)
          refine tw_bipush (pc := 33) dX7_egress_33 (by decide) (fun x216 ex216 => ?_)
          refine tt_iload_n (pc := 35) dX7_egress_35 (.tail _ (.head _)) ?_
          refine tw_imul (c := 8) (pc := 36) dX7_egress_36 (by omega) (by omega) (fun x217 ex217 => ?_)
          refine tt_iload_n (pc := 37) dX7_egress_37 (.tail _ (.tail _ (.tail _ (.head _)))) ?_
          refine tw_iadd (pc := 38) dX7_egress_38 (by omega) (fun x218 ex218 => ?_)
          refine tw_ild (pc := 39) dX7_egress_39 hw tq215 rfl (by omega) (by omega) (fun f220 x219 ef220 gf220 lx219 ux219 => ?_)
          refine tw_ldc (n := 1000000) (pc := 40) dX7_egress_40 rfl kcX7_124 (by decide) (fun x221 ex221 => ?_)
          refine tw_icmp (tgt := 47) (pc := 42) dX7_egress_42 (by decide) (fun (c222 : x221.toInt ≤ x219.toInt) => ?_) (fun (c222 : ¬ (x221.toInt ≤ x219.toInt)) => ?_)
          · skip
            refine tw_iinc (pc := 47) dX7_egress_47 (.tail _ (.tail _ (.tail _ (.head _)))) (by decide) (by decide) (by omega) (fun x223 ex223 => ?_)
            show TT _ _ _ _ _ _ _ [(3, .inl x223), (0, .inr (some a0)), (1, .inl a1), (2, .inl a2)] _ _
            refine tt_goto (tgt := 2) (pc := 50) dX7_egress_50 (by decide) ?_
            refine tt_loc [(0, .inr (some a0)), (1, .inl a1), (2, .inl a2), (3, .inl x223)] (List.forall_mem_cons.mpr ⟨(.tail _ (.head _)), List.forall_mem_cons.mpr ⟨(.tail _ (.tail _ (.head _))), List.forall_mem_cons.mpr ⟨(.tail _ (.tail _ (.tail _ (.head _)))), List.forall_mem_cons.mpr ⟨(.head _), fun _ z => absurd z List.not_mem_nil⟩⟩⟩⟩) ?_
            exact ih2 x223 (by omega) (by omega) (by omega)
          · skip
            refine tt_iload_n (pc := 45) dX7_egress_45 (.tail _ (.tail _ (.tail _ (.head _)))) ?_
            have fa := fv_at hw.2.2.2 hF tq215 ef220 (a := a1.toInt.toNat) (b := x196.toInt.toNat) (by omega) (by omega) (by show x218.toInt.toNat = _; omega) gf220
            refine tt_stop ?_
            rw [hQ]
            exact Or.inr (Or.inl ⟨x196, dX7_egress_46, rfl, Or.inl rfl, rfl, x196, rfl, by omega, by omega, fun _ => by omega⟩)
  have ba2 := i_ty a2
  refine tw_iconst (pc := 0) dX7_egress_0 (by decide) (fun x224 ex224 => ?_)
  refine tt_istore_n (pc := 1) dX7_egress_1 (by decide) ?_
  show TT _ _ _ _ _ _ _ [(3, .inl x224), (0, .inr (some a0)), (1, .inl a1), (2, .inl a2)] _ _
  refine tt_loc [(0, .inr (some a0)), (1, .inl a1), (2, .inl a2), (3, .inl x224)] (List.forall_mem_cons.mpr ⟨(.tail _ (.head _)), List.forall_mem_cons.mpr ⟨(.tail _ (.tail _ (.head _))), List.forall_mem_cons.mpr ⟨(.tail _ (.tail _ (.tail _ (.head _)))), List.forall_mem_cons.mpr ⟨(.head _), fun _ z => absurd z List.not_mem_nil⟩⟩⟩⟩) ?_
  exact B2 9 x224 (by omega) (by omega) (by omega)
set_option maxHeartbeats 4000000 in
theorem g_X7_hopW {l : Launch} {D : va_G} {N : Nat} {pk : Int} {τ : List Nat} (hN2 : 2 ≤ N) (hN8 : N ≤ 8) (hp0 : 0 ≤ pk) (hp64 : pk ≤ 64) {h : List tC} (hw : WT N pk τ h) (a0 : Nat) (ta0 : τ[a0]? = some 7) (a1 : Int32) (la1 : 0 ≤ a1.toInt) (ua1 : a1.toInt ≤ (N : Int) - 1) (a2 : Int32) (la2 : 0 ≤ a2.toInt) (ua2 : a2.toInt ≤ (N : Int) - 1) {F : Nat → Nat → Int} (hF : FV τ h F) (hB : ∀ a b, a < N → b < N → 0 ≤ F a b ∧ F a b ≤ 1000000) (hne : a1.toInt ≠ a2.toInt) (hlt : F a1.toInt.toNat a2.toInt.toNat < 1000000) {l0 : Nat} (hH : HOPW N τ h F a1.toInt.toNat a2.toInt.toNat l0) : TMc l D yX7_hop cX7_hop 4 (some .int) 1 22 0 0 [.inr (some a0), .inl a1, .inl a2] h (fun rv h' => h = h' ∧ ∃ x : Int32, rv = some (.inl x) ∧ 0 ≤ x.toInt ∧ x.toInt ≤ 11) := by
  refine tmc_of false rfl (by decide) (Nat.le_of_ble_eq_true rfl) ?_
  suffices HQ : ∀ Q0, Q0 = tRt cX7_hop (some .int) (fun rv h' => h = h' ∧ ∃ x : Int32, rv = some (.inl x) ∧ 0 ≤ x.toInt ∧ x.toInt ≤ 11) → TT l D mX7_hop Q0 0 0 0 [(0, .inr (some a0)), (1, .inl a1), (2, .inl a2)] [] h from HQ _ rfl
  intro Q0 hQ
  obtain ⟨li9, lo9, hi9, co9, u9, o9, lq, l12, hS, h33, un, uo, h36, oo, on, eqn⟩ := hH
  obtain ⟨-, -, -, -, -, sl, sh, -⟩ := id hS
  have B25 : ∀ (n25 : Nat) (x330 : Int32) (lx330 : 0 ≤ x330.toInt) (ux330 : x330.toInt ≤ 12) (il : x330.toInt ≤ l0), 12 - x330.toInt < n25 → TT l D mX7_hop Q0 0 0 25 [(0, .inr (some a0)), (1, .inl a1), (2, .inl a2), (3, .inl x330)] [] h := by
    intro n25
    induction n25 with
    | zero =>
      intro x330 lx330 ux330 il hn25
      exfalso
      omega
    | succ n25 ih25 =>
      intro x330 lx330 ux330 il hn25
      refine tt_iload_n (pc := 25) dX7_hop_25 (.tail _ (.tail _ (.tail _ (.head _)))) ?_
      refine tw_bipush (pc := 26) dX7_hop_26 (by decide) (fun x331 ex331 => ?_)
      refine tw_icmp (tgt := 94) (pc := 28) dX7_hop_28 (by decide) (fun (c332 : x331.toInt ≤ x330.toInt) => ?_) (fun (c332 : ¬ (x331.toInt ≤ x330.toInt)) => ?_)
      · skip
        refine tw_iconst (pc := 94) dX7_hop_94 (by decide) (fun x333 ex333 => ?_)
        refine tt_stop ?_
        rw [hQ]
        exact Or.inr (Or.inl ⟨x333, dX7_hop_95, rfl, Or.inl rfl, rfl, x333, rfl, by omega, by omega⟩)
      · skip
        refine tt_aload_n (pc := 31) dX7_hop_31 (.head _) ?_
        refine tt_iload_n (pc := 32) dX7_hop_32 (.tail _ (.head _)) ?_
        refine tt_iload_n (pc := 33) dX7_hop_33 (.tail _ (.tail _ (.tail _ (.head _)))) ?_
        refine tw_callV (kc := 0) (ks := 0) (mc := 0) (ms := 0) (as := [.inl a1, .inl x330]) (st := []) (pc := 34) hw ta0 (by decide) dX7_hop_34 lkX7_110 imX7_isUp seX7_isUp rfl rfl (by decide) (by decide) (Nat.le_of_ble_eq_true rfl) (g_X7_isUpE hN2 hN8 hp0 hp64 hw a0 ta0 a1 x330 (by omega) (by omega)) (fun rv h334 qh334 => ?_)
        obtain ⟨rfl, x336, rfl, ⟨lx336, ux336⟩, Zx336⟩ := qh334
        have RUx336 : x336.toInt = 0 → x330.toInt ≠ l0 := fun z y => Zx336 z (by
          have e9 : x330.toInt.toNat = l0 := by omega
          rw [e9]
          exact ⟨u9, lo9, hi9, h33, un, sl, sh, by omega⟩)
        show TT _ _ _ _ _ _ _ _ [.inl x336] _
        refine tw_if (tgt := 88) (pc := 37) dX7_hop_37 (by decide) (fun (c337 : x336.toInt = 0) => ?_) (fun (c337 : ¬ (x336.toInt = 0)) => ?_)
        · skip
          refine tw_iinc (pc := 88) dX7_hop_88 (.tail _ (.tail _ (.tail _ (.head _)))) (by decide) (by decide) (by omega) (fun x338 ex338 => ?_)
          show TT _ _ _ _ _ _ _ [(3, .inl x338), (0, .inr (some a0)), (1, .inl a1), (2, .inl a2)] _ _
          refine tt_goto (tgt := 25) (pc := 91) dX7_hop_91 (by decide) ?_
          refine tt_loc [(0, .inr (some a0)), (1, .inl a1), (2, .inl a2), (3, .inl x338)] (List.forall_mem_cons.mpr ⟨(.tail _ (.head _)), List.forall_mem_cons.mpr ⟨(.tail _ (.tail _ (.head _))), List.forall_mem_cons.mpr ⟨(.tail _ (.tail _ (.tail _ (.head _)))), List.forall_mem_cons.mpr ⟨(.head _), fun _ z => absurd z List.not_mem_nil⟩⟩⟩⟩) ?_
          exact ih25 x338 (by omega) (by omega) (by omega) (by omega)
        · skip
          refine tt_aload_n (pc := 40) dX7_hop_40 (.head _) ?_
          refine tt_iload_n (pc := 41) dX7_hop_41 (.tail _ (.head _)) ?_
          refine tt_iload_n (pc := 42) dX7_hop_42 (.tail _ (.tail _ (.tail _ (.head _)))) ?_
          refine tw_callV (kc := 0) (ks := 0) (mc := 0) (ms := 0) (as := [.inl a1, .inl x330]) (st := []) (pc := 43) hw ta0 (by decide) dX7_hop_43 lkX7_125 imX7_isStep seX7_isStep rfl rfl (by decide) (by decide) (Nat.le_of_ble_eq_true rfl) (g_X7_isStepE hN2 hN8 hp0 hp64 hw a0 ta0 a1 (by omega) (by omega) x330 (by omega) (by omega)) (fun rv h339 qh339 => ?_)
          obtain ⟨rfl, x341, rfl, ⟨lx341, ux341⟩, Yx341, Zx341⟩ := qh339
          have RUx341 : x341.toInt = 0 → x330.toInt ≠ l0 := fun z y => Zx341 z lo9 hi9 (by
            have e9 : x330.toInt.toNat = l0 := by omega
            have e8 : x330 = li9 := Int32.toInt_inj.mp (by omega)
            rw [e9, e8]
            exact hS)
          show TT _ _ _ _ _ _ _ _ [.inl x341] _
          refine tw_if (tgt := 88) (pc := 46) dX7_hop_46 (by decide) (fun (c342 : x341.toInt = 0) => ?_) (fun (c342 : ¬ (x341.toInt = 0)) => ?_)
          · skip
            refine tw_iinc (pc := 88) dX7_hop_88 (.tail _ (.tail _ (.tail _ (.head _)))) (by decide) (by decide) (by omega) (fun x343 ex343 => ?_)
            show TT _ _ _ _ _ _ _ [(3, .inl x343), (0, .inr (some a0)), (1, .inl a1), (2, .inl a2)] _ _
            refine tt_goto (tgt := 25) (pc := 91) dX7_hop_91 (by decide) ?_
            refine tt_loc [(0, .inr (some a0)), (1, .inl a1), (2, .inl a2), (3, .inl x343)] (List.forall_mem_cons.mpr ⟨(.tail _ (.head _)), List.forall_mem_cons.mpr ⟨(.tail _ (.tail _ (.head _))), List.forall_mem_cons.mpr ⟨(.tail _ (.tail _ (.tail _ (.head _)))), List.forall_mem_cons.mpr ⟨(.head _), fun _ z => absurd z List.not_mem_nil⟩⟩⟩⟩) ?_
            exact ih25 x343 (by omega) (by omega) (by omega) (by omega)
          · skip
            refine tt_aload_n (pc := 49) dX7_hop_49 (.head _) ?_
            refine tw_getr (pc := 50) dX7_hop_50 flX7_23 hw ta0 (by decide) rfl (fun f344 q345 ef344 gf344 tq345 => ?_)
            refine tt_iload_n (pc := 53) dX7_hop_53 (.tail _ (.tail _ (.tail _ (.head _)))) ?_
            refine tw_ild (pc := 54) dX7_hop_54 hw tq345 rfl (by omega) (by omega) (fun f347 x346 ef347 gf347 lx346 ux346 => ?_)
            refine tt_aload_n (pc := 55) dX7_hop_55 (.head _) ?_
            refine tw_getr (pc := 56) dX7_hop_56 flX7_89 hw ta0 (by decide) rfl (fun f348 q349 ef348 gf348 tq349 => ?_)
            refine tw_bipush (pc := 59) dX7_hop_59 (by decide) (fun x350 ex350 => ?_)
            refine tt_aload_n (pc := 61) dX7_hop_61 (.head _) ?_
            refine tt_iload_n (pc := 62) dX7_hop_62 (.tail _ (.head _)) ?_
            refine tt_iload_n (pc := 63) dX7_hop_63 (.tail _ (.tail _ (.tail _ (.head _)))) ?_
            refine tw_callV (kc := 0) (ks := 0) (mc := 0) (ms := 0) (as := [.inl a1, .inl x330]) (st := [.inl x350, .inr (some q349), .inl x346]) (pc := 64) hw ta0 (by decide) dX7_hop_64 lkX7_132 imX7_other seX7_other rfl rfl (by decide) (by decide) (Nat.le_of_ble_eq_true rfl) (g_X7_otherE hN2 hN8 hp0 hp64 hw a0 ta0 a1 x330 (by omega) (by omega)) (fun rv h351 qh351 => ?_)
            obtain ⟨rfl, x353, rfl, ⟨lx353, ux353⟩, Ox353⟩ := qh351
            have ROx353 : x330.toInt = l0 → x353.toInt = o9 := fun y => by
              have e9 : x330.toInt.toNat = l0 := by omega
              rw [e9] at Ox353
              rcases Ox353 with ⟨lo8, hi8, A1, A2, A3, A4⟩ | ⟨A1, A2⟩
              · have q1 := ARV.uq hw.2.2.2 (by decide) A1 sl
                have q2 := ARV.uq hw.2.2.2 (by decide) A2 sh
                rw [A4, q2]
                rw [q1] at A3
                omega
              · have q1 := ARV.uq hw.2.2.2 (by decide) A1 sl
                rw [q1] at A2 ⊢
                omega
            show TT _ _ _ _ _ _ _ _ [.inl x353, .inl x350, .inr (some q349), .inl x346] _
            refine tw_imul (c := 8) (pc := 67) dX7_hop_67 (by omega) (by omega) (fun x354 ex354 => ?_)
            refine tt_iload_n (pc := 68) dX7_hop_68 (.tail _ (.tail _ (.head _))) ?_
            refine tw_iadd (pc := 69) dX7_hop_69 (by omega) (fun x355 ex355 => ?_)
            refine tw_ild (pc := 70) dX7_hop_70 hw tq349 rfl (by omega) (by omega) (fun f357 x356 ef357 gf357 lx356 ux356 => ?_)
            have fo := fv_at hw.2.2.2 hF tq349 ef357 (a := x353.toInt.toNat) (b := a2.toInt.toNat) (by omega) (by omega) (by show x355.toInt.toNat = _; omega) gf357
            have fb := hB x353.toInt.toNat a2.toInt.toNat (by omega) (by omega)
            have RC : x330.toInt = l0 → x346.toInt = co9.toInt := fun y => by rw [arv_is hw.2.2.2 (by decide) h36 tq345 ef347 gf347 (by show x330.toInt.toNat = _; omega)]
            have RF : x330.toInt = l0 → x356.toInt = F o9 a2.toInt.toNat := fun y => by rw [fo, show x353.toInt.toNat = o9 by have := ROx353 y; omega]
            refine tw_iadd (pc := 71) dX7_hop_71 (by omega) (fun x358 ex358 => ?_)
            refine tt_aload_n (pc := 72) dX7_hop_72 (.head _) ?_
            refine tt_get (pc := 73) dX7_hop_73 flX7_89 ef348 gf348 ?_
            refine tw_bipush (pc := 76) dX7_hop_76 (by decide) (fun x359 ex359 => ?_)
            refine tt_iload_n (pc := 78) dX7_hop_78 (.tail _ (.head _)) ?_
            refine tw_imul (c := 8) (pc := 79) dX7_hop_79 (by omega) (by omega) (fun x360 ex360 => ?_)
            refine tt_iload_n (pc := 80) dX7_hop_80 (.tail _ (.tail _ (.head _))) ?_
            refine tw_iadd (pc := 81) dX7_hop_81 (by omega) (fun x361 ex361 => ?_)
            refine tw_ild (pc := 82) dX7_hop_82 hw tq349 rfl (by omega) (by omega) (fun f363 x362 ef363 gf363 lx362 ux362 => ?_)
            have fr := fv_at hw.2.2.2 hF tq349 ef363 (a := a1.toInt.toNat) (b := a2.toInt.toNat) (by omega) (by omega) (by show x361.toInt.toNat = _; omega) gf363
            refine tw_icmp (tgt := 88) (pc := 83) dX7_hop_83 (by decide) (fun (c364 : x358.toInt ≠ x362.toInt) => ?_) (fun (c364 : ¬ (x358.toInt ≠ x362.toInt)) => ?_)
            · skip
              refine tw_iinc (pc := 88) dX7_hop_88 (.tail _ (.tail _ (.tail _ (.head _)))) (by decide) (by decide) (by omega) (fun x365 ex365 => ?_)
              show TT _ _ _ _ _ _ _ [(3, .inl x365), (0, .inr (some a0)), (1, .inl a1), (2, .inl a2)] _ _
              refine tt_goto (tgt := 25) (pc := 91) dX7_hop_91 (by decide) ?_
              refine tt_loc [(0, .inr (some a0)), (1, .inl a1), (2, .inl a2), (3, .inl x365)] (List.forall_mem_cons.mpr ⟨(.tail _ (.head _)), List.forall_mem_cons.mpr ⟨(.tail _ (.tail _ (.head _))), List.forall_mem_cons.mpr ⟨(.tail _ (.tail _ (.tail _ (.head _)))), List.forall_mem_cons.mpr ⟨(.head _), fun _ z => absurd z List.not_mem_nil⟩⟩⟩⟩) ?_
              exact ih25 x365 (by omega) (by omega) (by omega) (by omega)
            · skip
              refine tt_iload_n (pc := 86) dX7_hop_86 (.tail _ (.tail _ (.tail _ (.head _)))) ?_
              refine tt_stop ?_
              rw [hQ]
              exact Or.inr (Or.inl ⟨x330, dX7_hop_87, rfl, Or.inl rfl, rfl, x330, rfl, by omega, by omega⟩)
  refine tt_iload_n (pc := 0) dX7_hop_0 (.tail _ (.tail _ (.head _))) ?_
  refine tt_iload_n (pc := 1) dX7_hop_1 (.tail _ (.head _)) ?_
  refine tw_icmp (tgt := 21) (pc := 2) dX7_hop_2 (by decide) (fun (c366 : a2.toInt = a1.toInt) => ?_) (fun (c366 : ¬ (a2.toInt = a1.toInt)) => ?_)
  · skip
    refine tw_iconst (pc := 21) dX7_hop_21 (by decide) (fun x367 ex367 => ?_)
    refine tt_stop ?_
    rw [hQ]
    exact Or.inr (Or.inl ⟨x367, dX7_hop_22, rfl, Or.inl rfl, rfl, x367, rfl, by omega, by omega⟩)
  · skip
    refine tt_aload_n (pc := 5) dX7_hop_5 (.head _) ?_
    refine tw_getr (pc := 6) dX7_hop_6 flX7_89 hw ta0 (by decide) rfl (fun f368 q369 ef368 gf368 tq369 => ?_)
    refine tw_bipush (pc := 9) dX7_hop_9 (by decide) (fun x370 ex370 => ?_)
    refine tt_iload_n (pc := 11) dX7_hop_11 (.tail _ (.head _)) ?_
    refine tw_imul (c := 8) (pc := 12) dX7_hop_12 (by omega) (by omega) (fun x371 ex371 => ?_)
    refine tt_iload_n (pc := 13) dX7_hop_13 (.tail _ (.tail _ (.head _))) ?_
    refine tw_iadd (pc := 14) dX7_hop_14 (by omega) (fun x372 ex372 => ?_)
    refine tw_ild (pc := 15) dX7_hop_15 hw tq369 rfl (by omega) (by omega) (fun f374 x373 ef374 gf374 lx373 ux373 => ?_)
    refine tw_ldc (n := 1000000) (pc := 16) dX7_hop_16 rfl kcX7_124 (by decide) (fun x375 ex375 => ?_)
    have fr0 := fv_at hw.2.2.2 hF tq369 ef374 (a := a1.toInt.toNat) (b := a2.toInt.toNat) (by omega) (by omega) (by show x372.toInt.toNat = _; omega) gf374
    refine tw_icmp (tgt := 23) (pc := 18) dX7_hop_18 (by decide) (fun (c376 : x373.toInt < x375.toInt) => ?_) (fun (c376 : ¬ (x373.toInt < x375.toInt)) => ?_)
    · skip
      refine tw_iconst (pc := 23) dX7_hop_23 (by decide) (fun x377 ex377 => ?_)
      refine tt_istore_n (pc := 24) dX7_hop_24 (by decide) ?_
      show TT _ _ _ _ _ _ _ [(3, .inl x377), (0, .inr (some a0)), (1, .inl a1), (2, .inl a2)] _ _
      refine tt_loc [(0, .inr (some a0)), (1, .inl a1), (2, .inl a2), (3, .inl x377)] (List.forall_mem_cons.mpr ⟨(.tail _ (.head _)), List.forall_mem_cons.mpr ⟨(.tail _ (.tail _ (.head _))), List.forall_mem_cons.mpr ⟨(.tail _ (.tail _ (.tail _ (.head _)))), List.forall_mem_cons.mpr ⟨(.head _), fun _ z => absurd z List.not_mem_nil⟩⟩⟩⟩) ?_
      exact B25 13 x377 (by omega) (by omega) (by omega) (by omega)
    · skip
      refine tw_iconst (pc := 21) dX7_hop_21 (by decide) (fun x378 ex378 => ?_)
      refine tt_stop ?_
      rw [hQ]
      exact Or.inr (Or.inl ⟨x378, dX7_hop_22, rfl, Or.inl rfl, rfl, x378, rfl, by omega, by omega⟩)
