abbrev mX7_deliver : tM := (RX7, cX7_deliver, 3, 8, 209, false)
set_option maxHeartbeats 4000000 in
theorem g_X7_deliver {l : Launch} {D : va_G} {N : Nat} {pk : Int} {τ : List Nat} (hN2 : 2 ≤ N) (hN8 : N ≤ 8) (hp0 : 0 ≤ pk) (hp64 : pk ≤ 64) {h : List tC} (hw : WT N pk τ h) (a0 : Nat) (ta0 : τ[a0]? = some 7) (a1 : Int32) (a2 : Int32) (hI : I1 τ h) : TMc l D yX7_deliver cX7_deliver 3 (some .int) 8 209 0 0 [.inr (some a0), .inl a1, .inl a2] h (fun rv h' => WT N pk τ h' ∧ Fr PMo τ h h' ∧ I1 τ h' ∧ ∃ x : Int32, rv = some (.inl x) ∧ -2147483648 ≤ x.toInt ∧ x.toInt ≤ 2147483647) := by
  refine tmc_of false rfl (by decide) (Nat.le_of_ble_eq_true rfl) ?_
  suffices HQ : ∀ Q0, Q0 = tRt cX7_deliver (some .int) (fun rv h' => WT N pk τ h' ∧ Fr PMo τ h h' ∧ I1 τ h' ∧ ∃ x : Int32, rv = some (.inl x) ∧ -2147483648 ≤ x.toInt ∧ x.toInt ≤ 2147483647) → TT l D mX7_deliver Q0 0 0 0 [(0, .inr (some a0)), (1, .inl a1), (2, .inl a2)] [] h from HQ _ rfl
  intro Q0 hQ
  have hf : Fr PMo τ h h := Fr.rf
  have ba1 := i_ty a1
  have ba2 := i_ty a2
  refine tt_aload_n (pc := 0) dX7_deliver_0 (.head _) ?_
  refine tt_iload_n (pc := 1) dX7_deliver_1 (.tail _ (.head _)) ?_
  refine tt_iload_n (pc := 2) dX7_deliver_2 (.tail _ (.tail _ (.head _))) ?_
  refine tt_callS (kc := 0) (ks := 0) (mc := 0) (ms := 0) (as := [.inl a1, .inl a2]) (st := [.inr (some a0)]) (pc := 3) dX7_deliver_3 lkX7_212 smX7_isEnd rfl (by decide) (by decide) (Nat.le_of_ble_eq_true rfl) (g_X7_isEnd hN2 hN8 hp0 hp64 hw a1 a2) (fun rv h30 qh30 => ?_)
  obtain ⟨rfl, x31, rfl, lx31, ux31, Gx31, Zx31⟩ := qh30
  show TT _ _ _ _ _ _ _ _ [.inl x31, .inr (some a0)] _
  refine tw_iconst (pc := 6) dX7_deliver_6 (by decide) (fun x36 ex36 => ?_)
  refine tw_callV (kc := 0) (ks := 0) (mc := 0) (ms := 0) (as := [.inl x31, .inl x36]) (st := []) (pc := 7) hw ta0 (by decide) dX7_deliver_7 lkX7_193 imX7_goes seX7_goes rfl rfl (by decide) (by decide) (Nat.le_of_ble_eq_true rfl) (g_X7_goesE hN2 hN8 hp0 hp64 hw a0 ta0 x31 (by omega) (by omega) x36 (by omega) (by omega)) (fun rv h37 qh37 => ?_)
  obtain ⟨wh37, fh37, x39, x40, rfl, ⟨fsh37, eh37, gh37⟩, ⟨lx39, ux39⟩, Ah37, Bh37, Ch37⟩ := qh37
  have hfh37 := hf.tr (fh37.weak weak_PMg_PMo)
  have Jh37 := i1_fr fh37 (by decide) (by decide) (by decide) (by decide) hI
  show TT _ _ _ _ _ _ _ _ [.inl x39] _
  refine tw_if (tgt := 15) (pc := 10) dX7_deliver_10 (by decide) (fun (c43 : x39.toInt ≠ 0) => ?_) (fun (c43 : ¬ (x39.toInt ≠ 0)) => ?_)
  · skip
    obtain ⟨b41, b42⟩ := (fun zz => (show x31.toInt = 1 ∧ x36.toInt = 1 from by omega)) (by omega)
    obtain ⟨b32, b33, b34, b35⟩ := Gx31 (by omega)
    refine tt_aload_n (pc := 15) dX7_deliver_15 (.head _) ?_
    refine tw_getr (pc := 16) dX7_deliver_16 flX7_38 wh37 ta0 (by decide) rfl (fun f44 q45 ef44 gf44 tq45 => ?_)
    refine tw_iconst (pc := 19) dX7_deliver_19 (by decide) (fun x46 ex46 => ?_)
    refine tt_iload_n (pc := 20) dX7_deliver_20 (.tail _ (.head _)) ?_
    refine tw_imul (c := 2) (pc := 21) dX7_deliver_21 (by omega) (by omega) (fun x47 ex47 => ?_)
    refine tt_iload_n (pc := 22) dX7_deliver_22 (.tail _ (.tail _ (.head _))) ?_
    refine tw_iadd (pc := 23) dX7_deliver_23 (by omega) (fun x48 ex48 => ?_)
    refine tw_ild (pc := 24) dX7_deliver_24 wh37 tq45 rfl (by omega) (by omega) (fun f50 x49 ef50 gf50 lx49 ux49 => ?_)
    refine tw_if (tgt := 32) (pc := 25) dX7_deliver_25 (by decide) (fun (c51 : x49.toInt ≠ 0) => ?_) (fun (c51 : ¬ (x49.toInt ≠ 0)) => ?_)
    · skip
      refine tt_aload_n (pc := 32) dX7_deliver_32 (.head _) ?_
      refine tw_iconst (pc := 33) dX7_deliver_33 (by decide) (fun x52 ex52 => ?_)
      refine tt_iload_n (pc := 34) dX7_deliver_34 (.tail _ (.head _)) ?_
      refine tw_imul (c := 2) (pc := 35) dX7_deliver_35 (by omega) (by omega) (fun x53 ex53 => ?_)
      refine tt_iload_n (pc := 36) dX7_deliver_36 (.tail _ (.tail _ (.head _))) ?_
      refine tw_iadd (pc := 37) dX7_deliver_37 (by omega) (fun x54 ex54 => ?_)
      refine tw_callV (kc := 0) (ks := 0) (mc := 0) (ms := 0) (as := [.inl x54]) (st := []) (pc := 38) wh37 ta0 (by decide) dX7_deliver_38 lkX7_215 imX7_come seX7_come rfl rfl (by decide) (by decide) (Nat.le_of_ble_eq_true rfl) (g_X7_come hN2 hN8 hp0 hp64 wh37 a0 ta0 x54 (by omega) (by omega) Jh37 (fun k9 xs9 x9 tk9 e9 g9 => by
        have z9 := arv_is wh37.2.2.2 (by decide) (⟨k9, 0, xs9, tk9, e9, g9⟩ : ARV _ _ 41 x54.toNatClampNeg x9) tq45 ef50 gf50 (by show x48.toInt.toNat = x54.toInt.toNat; omega)
        rw [← z9]
        omega)) (fun rv h55 qh55 => ?_)
      obtain ⟨wh55, fh55, Jh55, x56, rfl, lx56, ux56⟩ := qh55
      have hfh55 := hfh37.tr (fh55.weak weak_PM_PMo)
      show TT _ _ _ _ _ _ _ _ [.inl x56] _
      refine tt_stop ?_
      rw [hQ]
      exact Or.inr (Or.inl ⟨x56, dX7_deliver_41, rfl, Or.inl rfl, wh55, hfh55, Jh55, x56, rfl, by omega, by omega⟩)
    · skip
      refine tw_iconst (pc := 28) dX7_deliver_28 (by decide) (fun x57 ex57 => ?_)
      refine tt_goto (tgt := 41) (pc := 29) dX7_deliver_29 (by decide) ?_
      refine tt_stop ?_
      rw [hQ]
      exact Or.inr (Or.inl ⟨x57, dX7_deliver_41, rfl, Or.inl rfl, wh37, hfh37, Jh37, x57, rfl, by omega, by omega⟩)
  · skip
    refine tw_iconst (pc := 13) dX7_deliver_13 (by decide) (fun x58 ex58 => ?_)
    refine tt_stop ?_
    rw [hQ]
    exact Or.inr (Or.inl ⟨x58, dX7_deliver_14, rfl, Or.inl rfl, wh37, hfh37, Jh37, x58, rfl, by omega, by omega⟩)
