abbrev mX6_lay : tM := (RX6, cX6_lay, 6, 1, 21, false)
set_option maxHeartbeats 4000000 in
theorem h_X6_lay {l : Launch} {D : va_G} {N : Nat} {pk : Int} {τ : List Nat} (hN2 : 2 ≤ N) (hN8 : N ≤ 8) (hp0 : 0 ≤ pk) (hp64 : pk ≤ 64) {h : List tC} (hw : WT N pk τ h) (a0 : Nat) (ta0 : τ[a0]? = some 6) (a1 : Int32) (a2 : Int32) (a3 : Int32) (a4 : Int32) : TT l D mX6_lay (fun pc' loc' st' h' => tRt cX6_lay none (fun rv h' => WT N pk τ h' ∧ LAID h h' a0 a1.toNatClampNeg ∧ (0 ≤ a1.toInt ∧ a1.toInt ≤ 11 ∧ 0 ≤ a2.toInt ∧ a2.toInt ≤ (N : Int) - 1 ∧ 0 ≤ a3.toInt ∧ a3.toInt ≤ (N : Int) - 1) ∧ a2.toInt ≠ a3.toInt ∧ 1 ≤ a4.toInt ∧ a4.toInt ≤ 60 ∧ rv = none) pc' loc' st' h' ∨ (pc' = 23 ∧ st' = [] ∧ h' = h ∧ ¬ (0 ≤ a1.toInt ∧ a1.toInt ≤ 11 ∧ 0 ≤ a2.toInt ∧ a2.toInt ≤ (N : Int) - 1 ∧ 0 ≤ a3.toInt ∧ a3.toInt ≤ (N : Int) - 1)) ∨ (pc' = 63 ∧ st' = [] ∧ h' = h ∧ (0 ≤ a1.toInt ∧ a1.toInt ≤ 11 ∧ 0 ≤ a2.toInt ∧ a2.toInt ≤ (N : Int) - 1 ∧ 0 ≤ a3.toInt ∧ a3.toInt ≤ (N : Int) - 1) ∧ (a2.toInt = a3.toInt ∨ a4.toInt < 1 ∨ 60 < a4.toInt ∨ ∃ x : Int32, XL h a0 a1.toNatClampNeg x ∧ x.toInt ≠ 0))) 0 0 0 [(0, .inr (some a0)), (1, .inl a1), (2, .inl a2), (3, .inl a3), (4, .inl a4)] [] h := by
  suffices HQ : ∀ Q0, Q0 = (fun pc' loc' st' h' => tRt cX6_lay none (fun rv h' => WT N pk τ h' ∧ LAID h h' a0 a1.toNatClampNeg ∧ (0 ≤ a1.toInt ∧ a1.toInt ≤ 11 ∧ 0 ≤ a2.toInt ∧ a2.toInt ≤ (N : Int) - 1 ∧ 0 ≤ a3.toInt ∧ a3.toInt ≤ (N : Int) - 1) ∧ a2.toInt ≠ a3.toInt ∧ 1 ≤ a4.toInt ∧ a4.toInt ≤ 60 ∧ rv = none) pc' loc' st' h' ∨ (pc' = 23 ∧ st' = [] ∧ h' = h ∧ ¬ (0 ≤ a1.toInt ∧ a1.toInt ≤ 11 ∧ 0 ≤ a2.toInt ∧ a2.toInt ≤ (N : Int) - 1 ∧ 0 ≤ a3.toInt ∧ a3.toInt ≤ (N : Int) - 1)) ∨ (pc' = 63 ∧ st' = [] ∧ h' = h ∧ (0 ≤ a1.toInt ∧ a1.toInt ≤ 11 ∧ 0 ≤ a2.toInt ∧ a2.toInt ≤ (N : Int) - 1 ∧ 0 ≤ a3.toInt ∧ a3.toInt ≤ (N : Int) - 1) ∧ (a2.toInt = a3.toInt ∨ a4.toInt < 1 ∨ 60 < a4.toInt ∨ ∃ x : Int32, XL h a0 a1.toNatClampNeg x ∧ x.toInt ≠ 0))) → TT l D mX6_lay Q0 0 0 0 [(0, .inr (some a0)), (1, .inl a1), (2, .inl a2), (3, .inl a3), (4, .inl a4)] [] h from HQ _ rfl
  intro Q0 hQ
  have hf : Fr PX τ h h := Fr.rf
  have ba1 := i_ty a1
  have ba2 := i_ty a2
  have ba3 := i_ty a3
  have ba4 := i_ty a4
  refine tt_iload_n (pc := 0) dX6_lay_0 (.tail _ (.head _)) ?_
  refine tt_callS (kc := 0) (ks := 0) (mc := 0) (ms := 0) (as := [.inl a1]) (st := []) (pc := 1) dX6_lay_1 lkX6_58 smX6_isLink rfl (by decide) (by decide) (Nat.le_of_ble_eq_true rfl) (g_X6_isLink hN2 hN8 hp0 hp64 hw a1) (fun rv h28 qh28 => ?_)
  obtain ⟨rfl, x29, rfl, lx29, ux29, Gx29, Zx29⟩ := qh28
  show TT _ _ _ _ _ _ _ _ [.inl x29] _
  refine tw_if (tgt := 23) (pc := 4) dX6_lay_4 (by decide) (fun (c32 : x29.toInt = 0) => ?_) (fun (c32 : ¬ (x29.toInt = 0)) => ?_)
  · skip
    refine tt_stop ?_
    rw [hQ]
    exact Or.inr (Or.inl ⟨rfl, rfl, rfl, by omega⟩)
  · skip
    obtain ⟨b30, b31⟩ := Gx29 (by omega)
    refine tt_aload_n (pc := 7) dX6_lay_7 (.head _) ?_
    refine tt_iload_n (pc := 8) dX6_lay_8 (.tail _ (.tail _ (.head _))) ?_
    refine tw_callV (kc := 0) (ks := 0) (mc := 0) (ms := 0) (as := [.inl a2]) (st := []) (pc := 9) hw ta0 (by decide) dX6_lay_9 lkX6_62 imX6_isRouter seX6_isRouter rfl rfl (by decide) (by decide) (Nat.le_of_ble_eq_true rfl) (g_X6_isRouter hN2 hN8 hp0 hp64 hw a0 ta0 a2) (fun rv h33 qh33 => ?_)
    obtain ⟨rfl, x34, rfl, lx34, ux34, Gx34, Zx34⟩ := qh33
    show TT _ _ _ _ _ _ _ _ [.inl x34] _
    refine tw_if (tgt := 23) (pc := 12) dX6_lay_12 (by decide) (fun (c37 : x34.toInt = 0) => ?_) (fun (c37 : ¬ (x34.toInt = 0)) => ?_)
    · skip
      refine tt_stop ?_
      rw [hQ]
      exact Or.inr (Or.inl ⟨rfl, rfl, rfl, by omega⟩)
    · skip
      obtain ⟨b35, b36⟩ := Gx34 (by omega)
      refine tt_aload_n (pc := 15) dX6_lay_15 (.head _) ?_
      refine tt_iload_n (pc := 16) dX6_lay_16 (.tail _ (.tail _ (.tail _ (.head _)))) ?_
      refine tw_callV (kc := 0) (ks := 0) (mc := 0) (ms := 0) (as := [.inl a3]) (st := []) (pc := 17) hw ta0 (by decide) dX6_lay_17 lkX6_62 imX6_isRouter seX6_isRouter rfl rfl (by decide) (by decide) (Nat.le_of_ble_eq_true rfl) (g_X6_isRouter hN2 hN8 hp0 hp64 hw a0 ta0 a3) (fun rv h38 qh38 => ?_)
      obtain ⟨rfl, x39, rfl, lx39, ux39, Gx39, Zx39⟩ := qh38
      show TT _ _ _ _ _ _ _ _ [.inl x39] _
      refine tw_if (tgt := 33) (pc := 20) dX6_lay_20 (by decide) (fun (c42 : x39.toInt ≠ 0) => ?_) (fun (c42 : ¬ (x39.toInt ≠ 0)) => ?_)
      · skip
        obtain ⟨b40, b41⟩ := Gx39 (by omega)
        refine tt_aload_n (pc := 33) dX6_lay_33 (.head _) ?_
        refine tw_getr (pc := 34) dX6_lay_34 flX6_11 hw ta0 (by decide) rfl (fun f43 q44 ef43 gf43 tq44 => ?_)
        refine tt_iload_n (pc := 37) dX6_lay_37 (.tail _ (.head _)) ?_
        refine tw_ald (pc := 38) dX6_lay_38 hw tq44 rfl (by decide) (by omega) (by omega) (fun f45 q46 ef45 gf45 tq46 => ?_)
        refine tw_geti (pc := 39) dX6_lay_39 flX6_72 hw tq46 (by decide) rfl (fun f47 x48 ef47 gf47 lx48 ux48 => ?_)
        refine tw_if (tgt := 63) (pc := 42) dX6_lay_42 (by decide) (fun (c49 : x48.toInt ≠ 0) => ?_) (fun (c49 : ¬ (x48.toInt ≠ 0)) => ?_)
        · skip
          refine tt_stop ?_
          rw [hQ]
          exact Or.inr (Or.inr ⟨rfl, rfl, rfl, ⟨by omega, by omega, by omega, by omega, by omega, by omega⟩, Or.inr (Or.inr (Or.inr ⟨x48, ⟨_, _, ⟨_, _, _, ef43, gf43, ef45, gf45⟩, ef47, gf47⟩, by omega⟩))⟩)
        · skip
          refine tt_iload_n (pc := 45) dX6_lay_45 (.tail _ (.tail _ (.head _))) ?_
          refine tt_iload_n (pc := 46) dX6_lay_46 (.tail _ (.tail _ (.tail _ (.head _)))) ?_
          refine tw_icmp (tgt := 63) (pc := 47) dX6_lay_47 (by decide) (fun (c50 : a2.toInt = a3.toInt) => ?_) (fun (c50 : ¬ (a2.toInt = a3.toInt)) => ?_)
          · skip
            refine tt_stop ?_
            rw [hQ]
            exact Or.inr (Or.inr ⟨rfl, rfl, rfl, ⟨by omega, by omega, by omega, by omega, by omega, by omega⟩, (by first | exact Or.inl (by omega) | exact Or.inr (Or.inl (by omega)) | exact Or.inr (Or.inr (Or.inl (by omega))))⟩)
          · skip
            refine tt_iload (pc := 50) dX6_lay_50 (.tail _ (.tail _ (.tail _ (.tail _ (.head _))))) ?_
            refine tw_iconst (pc := 52) dX6_lay_52 (by decide) (fun x51 ex51 => ?_)
            refine tw_icmp (tgt := 63) (pc := 53) dX6_lay_53 (by decide) (fun (c52 : a4.toInt < x51.toInt) => ?_) (fun (c52 : ¬ (a4.toInt < x51.toInt)) => ?_)
            · skip
              refine tt_stop ?_
              rw [hQ]
              exact Or.inr (Or.inr ⟨rfl, rfl, rfl, ⟨by omega, by omega, by omega, by omega, by omega, by omega⟩, (by first | exact Or.inl (by omega) | exact Or.inr (Or.inl (by omega)) | exact Or.inr (Or.inr (Or.inl (by omega))))⟩)
            · skip
              refine tt_iload (pc := 56) dX6_lay_56 (.tail _ (.tail _ (.tail _ (.tail _ (.head _))))) ?_
              refine tw_bipush (pc := 58) dX6_lay_58 (by decide) (fun x53 ex53 => ?_)
              refine tw_icmp (tgt := 73) (pc := 60) dX6_lay_60 (by decide) (fun (c54 : a4.toInt ≤ x53.toInt) => ?_) (fun (c54 : ¬ (a4.toInt ≤ x53.toInt)) => ?_)
              · skip
                obtain ⟨x0, x1, x2, x3, x4, q5, eq, b0, b1, t5⟩ := wt_link hw tq46
                have ex0 : x0 = x48 := by
                  rw [eq] at ef47
                  cases ef47
                  have z := gf47
                  simp at z
                  exact z
                have hlt : q46 < h.length := t_at eq
                refine tt_aload_n (pc := 73) dX6_lay_73 (.head _) ?_
                refine tt_get (pc := 74) dX6_lay_74 flX6_11 ef43 gf43 ?_
                refine tt_iload_n (pc := 77) dX6_lay_77 (.tail _ (.head _)) ?_
                refine tt_aald (pc := 78) dX6_lay_78 ef45 (by decide) (i_nn (by omega)) gf45 ?_
                refine tt_astore (pc := 79) dX6_lay_79 (by decide) ?_
                show TT _ _ _ _ _ _ _ [(5, .inr (some q46)), (0, .inr (some a0)), (1, .inl a1), (2, .inl a2), (3, .inl a3), (4, .inl a4)] _ _
                refine tt_aload (pc := 81) dX6_lay_81 (.head _) ?_
                refine tw_iconst (pc := 83) dX6_lay_83 (by decide) (fun o1 eo1 => ?_)
                refine tt_put (pc := 84) dX6_lay_84 flX6_72 (Or.inl rfl) eq (Nat.le_of_ble_eq_true rfl) (tfb (by omega) (by omega)) ?_
                refine tt_aload (pc := 87) dX6_lay_87 (.head _) ?_
                refine tt_iload_n (pc := 89) dX6_lay_89 (.tail _ (.tail _ (.tail _ (.head _)))) ?_
                refine tt_iload_n (pc := 90) dX6_lay_90 (.tail _ (.tail _ (.tail _ (.tail _ (.head _))))) ?_
                refine tt_min (pc := 91) dX6_lay_91 mlX6_39 ms_min mi_math mc_min (by decide) (Nat.le_of_ble_eq_true rfl) ?_
                refine tw_minv (fun y2 ey2 => ?_)
                refine tt_putS (pc := 94) dX6_lay_94 flX6_81 hlt (Nat.le_of_ble_eq_true rfl) rfl ?_
                refine tt_aload (pc := 97) dX6_lay_97 (.head _) ?_
                refine tt_iload_n (pc := 99) dX6_lay_99 (.tail _ (.tail _ (.tail _ (.head _)))) ?_
                refine tt_iload_n (pc := 100) dX6_lay_100 (.tail _ (.tail _ (.tail _ (.tail _ (.head _))))) ?_
                refine tt_max (pc := 101) dX6_lay_101 mlX6_45 ms_max mi_math mc_max (by decide) (Nat.le_of_ble_eq_true rfl) ?_
                refine tw_maxv (fun y3 ey3 => ?_)
                refine tt_putS (pc := 104) dX6_lay_104 flX6_84 hlt (Nat.le_of_ble_eq_true rfl) rfl ?_
                refine tt_aload (pc := 107) dX6_lay_107 (.head _) ?_
                refine tt_iload (pc := 109) dX6_lay_109 (.tail _ (.tail _ (.tail _ (.tail _ (.tail _ (.head _)))))) ?_
                refine tt_putS (pc := 111) dX6_lay_111 flX6_87 hlt (Nat.le_of_ble_eq_true rfl) rfl ?_
                refine tt_stop ?_
                rw [hQ]
                refine Or.inl (Or.inl ⟨dX6_lay_114, rfl, rfl, ?_, ⟨q46, x0, o1, y2, y3, a4, .inl x1, .inl x2, .inl x3, .inl x4, .inr (some q5), ⟨_, _, _, ef43, gf43, ef45, gf45⟩, eq, by rw [ex0]; omega, eo1, rfl⟩, ⟨by omega, by omega, by omega, by omega, by omega, by omega⟩, by omega, by omega, by omega, rfl⟩)
                refine wt_set hw tq46 ⟨rfl, by decide, rfl, fun j ft v hj hv => ?_, fun z => by cases z⟩
                match j, hj, hv with
                | 0, hj, hv => cases hj; cases hv; exact ⟨by omega, by omega⟩
                | 1, hj, hv => cases hj; cases hv; exact b1
                | 2, hj, hv => cases hj; cases hv; exact ⟨by omega, by omega⟩
                | 3, hj, hv => cases hj; cases hv; exact ⟨by omega, by omega⟩
                | 4, hj, hv => cases hj; cases hv; exact ⟨by omega, by omega⟩
                | 5, hj, hv => cases hj; cases hv; exact t5
                | n + 6, hj, _ => simp [fts] at hj
              · skip
                refine tt_stop ?_
                rw [hQ]
                exact Or.inr (Or.inr ⟨rfl, rfl, rfl, ⟨by omega, by omega, by omega, by omega, by omega, by omega⟩, (by first | exact Or.inl (by omega) | exact Or.inr (Or.inl (by omega)) | exact Or.inr (Or.inr (Or.inl (by omega))))⟩)
      · skip
        refine tt_stop ?_
        rw [hQ]
        exact Or.inr (Or.inl ⟨rfl, rfl, rfl, by omega⟩)
