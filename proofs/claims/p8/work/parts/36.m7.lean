abbrev mX6_deliver : tM := (RX6, cX6_deliver, 3, 6, 148, false)
set_option maxHeartbeats 4000000 in
theorem h_X6_deliver {l : Launch} {D : va_G} {N : Nat} {pk : Int} {τ : List Nat} (hN2 : 2 ≤ N) (hN8 : N ≤ 8) (hp0 : 0 ≤ pk) (hp64 : pk ≤ 64) {h : List tC} (hw : WT N pk τ h) (a0 : Nat) (ta0 : τ[a0]? = some 6) (a1 : Int32) (a2 : Int32) : TT l D mX6_deliver (fun pc' loc' st' h' => tRt cX6_deliver (some .int) (fun rv h' => WT N pk τ h' ∧ Fr PX τ h h' ∧ ∃ x : Int32, rv = some (.inl x) ∧ -2147483648 ≤ x.toInt ∧ x.toInt ≤ 2147483647) pc' loc' st' h' ∨ (pc' = 14 ∧ st' = [] ∧ h' = h ∧ True)) 0 0 0 [(0, .inr (some a0)), (1, .inl a1), (2, .inl a2)] [] h := by
  suffices HQ : ∀ Q0, Q0 = (fun pc' loc' st' h' => tRt cX6_deliver (some .int) (fun rv h' => WT N pk τ h' ∧ Fr PX τ h h' ∧ ∃ x : Int32, rv = some (.inl x) ∧ -2147483648 ≤ x.toInt ∧ x.toInt ≤ 2147483647) pc' loc' st' h' ∨ (pc' = 14 ∧ st' = [] ∧ h' = h ∧ True)) → TT l D mX6_deliver Q0 0 0 0 [(0, .inr (some a0)), (1, .inl a1), (2, .inl a2)] [] h from HQ _ rfl
  intro Q0 hQ
  have hf : Fr PX τ h h := Fr.rf
  have ba1 := i_ty a1
  have ba2 := i_ty a2
  refine tt_iload_n (pc := 0) dX6_deliver_0 (.tail _ (.head _)) ?_
  refine tt_callS (kc := 0) (ks := 0) (mc := 0) (ms := 0) (as := [.inl a1]) (st := []) (pc := 1) dX6_deliver_1 lkX6_58 smX6_isLink rfl (by decide) (by decide) (Nat.le_of_ble_eq_true rfl) (g_X6_isLink hN2 hN8 hp0 hp64 hw a1) (fun rv h13 qh13 => ?_)
  obtain ⟨rfl, x14, rfl, lx14, ux14, Gx14, Zx14⟩ := qh13
  show TT _ _ _ _ _ _ _ _ [.inl x14] _
  refine tw_if (tgt := 14) (pc := 4) dX6_deliver_4 (by decide) (fun (c17 : x14.toInt = 0) => ?_) (fun (c17 : ¬ (x14.toInt = 0)) => ?_)
  · skip
    refine tt_stop ?_
    rw [hQ]
    exact Or.inr ⟨rfl, rfl, rfl, trivial⟩
  · obtain ⟨b15, b16⟩ := Gx14 (by omega)
    refine tt_iload_n (pc := 7) dX6_deliver_7 (.tail _ (.tail _ (.head _))) ?_
    refine tt_callS (kc := 0) (ks := 0) (mc := 0) (ms := 0) (as := [.inl a2]) (st := []) (pc := 8) dX6_deliver_8 lkX6_117 smX6_isEnd rfl (by decide) (by decide) (Nat.le_of_ble_eq_true rfl) (g_X6_isEnd hN2 hN8 hp0 hp64 hw a2) (fun rv h18 qh18 => ?_)
    obtain ⟨rfl, x19, rfl, lx19, ux19, Gx19, Zx19⟩ := qh18
    show TT _ _ _ _ _ _ _ _ [.inl x19] _
    refine tw_if (tgt := 24) (pc := 11) dX6_deliver_11 (by decide) (fun (c22 : x19.toInt ≠ 0) => ?_) (fun (c22 : ¬ (x19.toInt ≠ 0)) => ?_)
    · obtain ⟨b20, b21⟩ := Gx19 (by omega)
      refine tt_aload_n (pc := 24) dX6_deliver_24 (.head _) ?_
      refine tt_iload_n (pc := 25) dX6_deliver_25 (.tail _ (.head _)) ?_
      refine tt_iload_n (pc := 26) dX6_deliver_26 (.tail _ (.tail _ (.head _))) ?_
      refine tw_callV (kc := 0) (ks := 0) (mc := 0) (ms := 0) (as := [.inl a1, .inl a2]) (st := []) (pc := 27) hw ta0 (by decide) dX6_deliver_27 lkX6_122 imX6_handOver seX6_handOver rfl rfl (by decide) (by decide) (Nat.le_of_ble_eq_true rfl) (g_X6_handOver hN2 hN8 hp0 hp64 hw a0 ta0 a1 (by omega) (by omega) a2 (by omega) (by omega)) (fun rv h23 qh23 => ?_)
      obtain ⟨wh23, fh23, x24, rfl, lx24, ux24⟩ := qh23
      have hfh23 := hf.tr fh23
      show TT _ _ _ _ _ _ _ _ [.inl x24] _
      refine tt_stop ?_
      rw [hQ]
      exact Or.inl (Or.inr (Or.inl ⟨x24, dX6_deliver_30, rfl, Or.inl rfl, wh23, hfh23, x24, rfl, by omega, by omega⟩))
    · skip
      refine tt_stop ?_
      rw [hQ]
      exact Or.inr ⟨rfl, rfl, rfl, trivial⟩
abbrev mX6_spoil : tM := (RX6, cX6_spoil, 5, 1, 21, false)
set_option maxHeartbeats 4000000 in
theorem h_X6_spoil {l : Launch} {D : va_G} {N : Nat} {pk : Int} {τ : List Nat} (hN2 : 2 ≤ N) (hN8 : N ≤ 8) (hp0 : 0 ≤ pk) (hp64 : pk ≤ 64) {h : List tC} (hw : WT N pk τ h) (a0 : Nat) (ta0 : τ[a0]? = some 6) (a1 : Int32) (a2 : Int32) (a3 : Int32) : TT l D mX6_spoil (fun pc' loc' st' h' => tRt cX6_spoil (some .boolean) (fun rv h' => WT N pk τ h' ∧ Fr PX τ h h' ∧ ∃ x : Int32, rv = some (.inl x) ∧ 0 ≤ x.toInt ∧ x.toInt ≤ 1) pc' loc' st' h' ∨ (pc' = 14 ∧ st' = [] ∧ h' = h ∧ True)) 0 0 0 [(0, .inr (some a0)), (1, .inl a1), (2, .inl a2), (3, .inl a3)] [] h := by
  suffices HQ : ∀ Q0, Q0 = (fun pc' loc' st' h' => tRt cX6_spoil (some .boolean) (fun rv h' => WT N pk τ h' ∧ Fr PX τ h h' ∧ ∃ x : Int32, rv = some (.inl x) ∧ 0 ≤ x.toInt ∧ x.toInt ≤ 1) pc' loc' st' h' ∨ (pc' = 14 ∧ st' = [] ∧ h' = h ∧ True)) → TT l D mX6_spoil Q0 0 0 0 [(0, .inr (some a0)), (1, .inl a1), (2, .inl a2), (3, .inl a3)] [] h from HQ _ rfl
  intro Q0 hQ
  have hf : Fr PX τ h h := Fr.rf
  have ba1 := i_ty a1
  have ba2 := i_ty a2
  have ba3 := i_ty a3
  refine tt_iload_n (pc := 0) dX6_spoil_0 (.tail _ (.head _)) ?_
  refine tt_callS (kc := 0) (ks := 0) (mc := 0) (ms := 0) (as := [.inl a1]) (st := []) (pc := 1) dX6_spoil_1 lkX6_58 smX6_isLink rfl (by decide) (by decide) (Nat.le_of_ble_eq_true rfl) (g_X6_isLink hN2 hN8 hp0 hp64 hw a1) (fun rv h28 qh28 => ?_)
  obtain ⟨rfl, x29, rfl, lx29, ux29, Gx29, Zx29⟩ := qh28
  show TT _ _ _ _ _ _ _ _ [.inl x29] _
  refine tw_if (tgt := 14) (pc := 4) dX6_spoil_4 (by decide) (fun (c32 : x29.toInt = 0) => ?_) (fun (c32 : ¬ (x29.toInt = 0)) => ?_)
  · skip
    refine tt_stop ?_
    rw [hQ]
    exact Or.inr ⟨rfl, rfl, rfl, trivial⟩
  · obtain ⟨b30, b31⟩ := Gx29 (by omega)
    refine tt_iload_n (pc := 7) dX6_spoil_7 (.tail _ (.tail _ (.head _))) ?_
    refine tt_callS (kc := 0) (ks := 0) (mc := 0) (ms := 0) (as := [.inl a2]) (st := []) (pc := 8) dX6_spoil_8 lkX6_117 smX6_isEnd rfl (by decide) (by decide) (Nat.le_of_ble_eq_true rfl) (g_X6_isEnd hN2 hN8 hp0 hp64 hw a2) (fun rv h33 qh33 => ?_)
    obtain ⟨rfl, x34, rfl, lx34, ux34, Gx34, Zx34⟩ := qh33
    show TT _ _ _ _ _ _ _ _ [.inl x34] _
    refine tw_if (tgt := 24) (pc := 11) dX6_spoil_11 (by decide) (fun (c37 : x34.toInt ≠ 0) => ?_) (fun (c37 : ¬ (x34.toInt ≠ 0)) => ?_)
    · obtain ⟨b35, b36⟩ := Gx34 (by omega)
      refine tt_aload_n (pc := 24) dX6_spoil_24 (.head _) ?_
      refine tw_getr (pc := 25) dX6_spoil_25 flX6_11 hw ta0 (by decide) rfl (fun f38 q39 ef38 gf38 tq39 => ?_)
      refine tt_iload_n (pc := 28) dX6_spoil_28 (.tail _ (.head _)) ?_
      refine tw_ald (pc := 29) dX6_spoil_29 hw tq39 rfl (by decide) (by omega) (by omega) (fun f40 q41 ef40 gf40 tq41 => ?_)
      refine tw_getr (pc := 30) dX6_spoil_30 flX6_131 hw tq41 (by decide) rfl (fun f42 q43 ef42 gf42 tq43 => ?_)
      refine tt_iload_n (pc := 33) dX6_spoil_33 (.tail _ (.tail _ (.head _))) ?_
      refine tw_ald (pc := 34) dX6_spoil_34 hw tq43 rfl (by decide) (by omega) (by omega) (fun f44 q45 ef44 gf44 tq45 => ?_)
      refine tt_iload_n (pc := 35) dX6_spoil_35 (.tail _ (.tail _ (.tail _ (.head _)))) ?_
      refine tw_callV (kc := 0) (ks := 0) (mc := 0) (ms := 0) (as := [.inl a3]) (st := []) (pc := 36) hw tq45 (by decide) dX6_spoil_36 lkX6_135 imX2_at seX2_at rfl rfl (by decide) (by decide) (Nat.le_of_ble_eq_true rfl) (g_X2_at hN2 hN8 hp0 hp64 hw q45 tq45 a3) (fun rv h46 qh46 => ?_)
      obtain ⟨rfl, o47, rfl, to47⟩ := qh46
      show TT _ _ _ _ _ _ _ _ [.inr o47] _
      refine tt_astore (pc := 39) dX6_spoil_39 (by decide) ?_
      show TT _ _ _ _ _ _ _ [(4, .inr o47), (0, .inr (some a0)), (1, .inl a1), (2, .inl a2), (3, .inl a3)] _ _
      refine tt_aload (pc := 41) dX6_spoil_41 (.head _) ?_
      refine tt_ifnonnull (tgt := 48) (pc := 43) dX6_spoil_43 (by decide) (fun q49 z48 => ?_) (fun z48 => ?_)
      · have tq49 := to47 q49 z48
        subst z48
        refine tt_aload (pc := 48) dX6_spoil_48 (.head _) ?_
        refine tw_iconst (pc := 50) dX6_spoil_50 (by decide) (fun x50 ex50 => ?_)
        refine tw_put (P := PX) (pc := 51) dX6_spoil_51 flX6_141 hw tq49 (by decide) rfl ⟨by omega, by omega⟩ (tfb (by omega) (by omega)) (by decide) (by decide) (fun f51 h52 eh52 gh52 kh52 wh52 fh52 => ?_)
        have hfh52 := hf.tr fh52
        refine tw_iconst (pc := 54) dX6_spoil_54 (by decide) (fun x53 ex53 => ?_)
        refine tt_stop ?_
        rw [hQ]
        exact Or.inl (Or.inr (Or.inl ⟨x53, dX6_spoil_55, rfl, Or.inr ⟨rfl, bool01 (by omega) (by omega)⟩, wh52, hfh52, x53, rfl, by omega, by omega⟩))
      · subst z48
        refine tw_iconst (pc := 46) dX6_spoil_46 (by decide) (fun x54 ex54 => ?_)
        refine tt_stop ?_
        rw [hQ]
        exact Or.inl (Or.inr (Or.inl ⟨x54, dX6_spoil_47, rfl, Or.inr ⟨rfl, bool01 (by omega) (by omega)⟩, hw, hf, x54, rfl, by omega, by omega⟩))
    · skip
      refine tt_stop ?_
      rw [hQ]
      exact Or.inr ⟨rfl, rfl, rfl, trivial⟩
abbrev mX6_run : tM := (RX6, cX6_run, 4, 6, 148, false)
set_option maxHeartbeats 4000000 in
theorem h_X6_run {l : Launch} {D : va_G} {N : Nat} {pk : Int} {τ : List Nat} (hN2 : 2 ≤ N) (hN8 : N ≤ 8) (hp0 : 0 ≤ pk) (hp64 : pk ≤ 64) {h : List tC} (hw : WT N pk τ h) (a0 : Nat) (ta0 : τ[a0]? = some 6) (a1 : Int32) : TT l D mX6_run (fun pc' loc' st' h' => tRt cX6_run (some .int) (fun rv h' => WT N pk τ h' ∧ Fr PX τ h h' ∧ ∃ x : Int32, rv = some (.inl x) ∧ -2147483648 ≤ x.toInt ∧ x.toInt ≤ 2147483647) pc' loc' st' h' ∨ (pc' = 11 ∧ st' = [] ∧ h' = h ∧ True)) 0 0 0 [(0, .inr (some a0)), (1, .inl a1)] [] h := by
  suffices HQ : ∀ Q0, Q0 = (fun pc' loc' st' h' => tRt cX6_run (some .int) (fun rv h' => WT N pk τ h' ∧ Fr PX τ h h' ∧ ∃ x : Int32, rv = some (.inl x) ∧ -2147483648 ≤ x.toInt ∧ x.toInt ≤ 2147483647) pc' loc' st' h' ∨ (pc' = 11 ∧ st' = [] ∧ h' = h ∧ True)) → TT l D mX6_run Q0 0 0 0 [(0, .inr (some a0)), (1, .inl a1)] [] h from HQ _ rfl
  intro Q0 hQ
  have hf : Fr PX τ h h := Fr.rf
  have B23 : ∀ (n23 : Nat) (hb : List tC) (hwb : WT N pk τ hb) (hfb : Fr PX τ h hb) (la123 : 0 ≤ a1.toInt) (ua123 : a1.toInt ≤ 500) (x278 : Int32) (lx278 : 0 ≤ x278.toInt) (ux278 : x278.toInt ≤ 500), 500 - x278.toInt < n23 → TT l D mX6_run Q0 0 0 23 [(0, .inr (some a0)), (1, .inl a1), (2, .inl x278)] [] hb := by
    intro n23
    induction n23 with
    | zero =>
      intro hb hwb hfb la123 ua123 x278 lx278 ux278 hn23
      exfalso
      omega
    | succ n23 ih23 =>
      intro hb hwb hfb la123 ua123 x278 lx278 ux278 hn23
      refine tt_iload_n (pc := 23) dX6_run_23 (.tail _ (.tail _ (.head _))) ?_
      refine tt_iload_n (pc := 24) dX6_run_24 (.tail _ (.head _)) ?_
      refine tw_icmp (tgt := 57) (pc := 25) dX6_run_25 (by decide) (fun (c279 : a1.toInt ≤ x278.toInt) => ?_) (fun (c279 : ¬ (a1.toInt ≤ x278.toInt)) => ?_)
      · skip
        refine tt_iload_n (pc := 57) dX6_run_57 (.tail _ (.head _)) ?_
        refine tt_stop ?_
        rw [hQ]
        exact Or.inl (Or.inr (Or.inl ⟨a1, dX6_run_58, rfl, Or.inl rfl, hwb, hfb, a1, rfl, by omega, by omega⟩))
      · skip
        refine tt_aload_n (pc := 28) dX6_run_28 (.head _) ?_
        refine tw_callV (kc := 0) (ks := 0) (mc := 0) (ms := 0) (as := []) (st := []) (pc := 29) hwb ta0 (by decide) dX6_run_29 lkX6_127 imX6_firstThatWaits seX6_firstThatWaits rfl rfl (by decide) (by decide) (Nat.le_of_ble_eq_true rfl) (g_X6_firstThatWaits hN2 hN8 hp0 hp64 hwb a0 ta0) (fun rv h280 qh280 => ?_)
        obtain ⟨rfl, x281, rfl, lx281, ux281⟩ := qh280
        show TT _ _ _ _ _ _ _ _ [.inl x281] _
        refine tt_istore_n (pc := 32) dX6_run_32 (by decide) ?_
        show TT _ _ _ _ _ _ _ [(3, .inl x281), (0, .inr (some a0)), (1, .inl a1), (2, .inl x278)] _ _
        refine tt_iload_n (pc := 33) dX6_run_33 (.head _) ?_
        refine tw_iconst (pc := 34) dX6_run_34 (by decide) (fun x282 ex282 => ?_)
        refine tw_icmp (tgt := 40) (pc := 35) dX6_run_35 (by decide) (fun (c283 : x281.toInt ≠ x282.toInt) => ?_) (fun (c283 : ¬ (x281.toInt ≠ x282.toInt)) => ?_)
        · skip
          refine tt_aload_n (pc := 40) dX6_run_40 (.tail _ (.head _)) ?_
          refine tt_iload_n (pc := 41) dX6_run_41 (.head _) ?_
          refine tw_iconst (pc := 42) dX6_run_42 (by decide) (fun x284 ex284 => ?_)
          refine tw_idiv (c := 2) (pc := 43) dX6_run_43 (by omega) (by omega) (by decide) (fun x285 ex285 => ?_)
          refine tt_iload_n (pc := 44) dX6_run_44 (.head _) ?_
          refine tw_iconst (pc := 45) dX6_run_45 (by decide) (fun x286 ex286 => ?_)
          refine tw_irem (c := 2) (pc := 46) dX6_run_46 (by omega) (by omega) (by decide) (fun x287 ex287 => ?_)
          refine tw_callV (kc := 0) (ks := 0) (mc := 0) (ms := 0) (as := [.inl x285, .inl x287]) (st := []) (pc := 47) hwb ta0 (by decide) dX6_run_47 lkX6_122 imX6_handOver seX6_handOver rfl rfl (by decide) (by decide) (Nat.le_of_ble_eq_true rfl) (g_X6_handOver hN2 hN8 hp0 hp64 hwb a0 ta0 x285 (by omega) (by omega) x287 (by omega) (by omega)) (fun rv h288 qh288 => ?_)
          obtain ⟨wh288, fh288, x289, rfl, lx289, ux289⟩ := qh288
          have hfh288 := hfb.tr fh288
          show TT _ _ _ _ _ _ _ _ [.inl x289] _
          refine tt_pop (pc := 50) dX6_run_50 ?_
          refine tw_iinc (pc := 51) dX6_run_51 (.tail _ (.tail _ (.tail _ (.head _)))) (by decide) (by decide) (by omega) (fun x290 ex290 => ?_)
          show TT _ _ _ _ _ _ _ [(2, .inl x290), (3, .inl x281), (0, .inr (some a0)), (1, .inl a1)] _ _
          refine tt_goto (tgt := 23) (pc := 54) dX6_run_54 (by decide) ?_
          refine tt_loc [(0, .inr (some a0)), (1, .inl a1), (2, .inl x290)] (List.forall_mem_cons.mpr ⟨(.tail _ (.tail _ (.head _))), List.forall_mem_cons.mpr ⟨(.tail _ (.tail _ (.tail _ (.head _)))), List.forall_mem_cons.mpr ⟨(.head _), fun _ z => absurd z List.not_mem_nil⟩⟩⟩) ?_
          exact ih23 h288 wh288 hfh288 (by omega) (by omega) x290 (by omega) (by omega) (by omega)
        · skip
          refine tt_iload_n (pc := 38) dX6_run_38 (.tail _ (.tail _ (.tail _ (.head _)))) ?_
          refine tt_stop ?_
          rw [hQ]
          exact Or.inl (Or.inr (Or.inl ⟨x278, dX6_run_39, rfl, Or.inl rfl, hwb, hfb, x278, rfl, by omega, by omega⟩))
  have ba1 := i_ty a1
  refine tt_iload_n (pc := 0) dX6_run_0 (.tail _ (.head _)) ?_
  refine tw_if (tgt := 11) (pc := 1) dX6_run_1 (by decide) (fun (c291 : a1.toInt < 0) => ?_) (fun (c291 : ¬ (a1.toInt < 0)) => ?_)
  · skip
    refine tt_stop ?_
    rw [hQ]
    exact Or.inr ⟨rfl, rfl, rfl, trivial⟩
  · skip
    refine tt_iload_n (pc := 4) dX6_run_4 (.tail _ (.head _)) ?_
    refine tw_sipush (pc := 5) dX6_run_5 (by decide) (fun x292 ex292 => ?_)
    refine tw_icmp (tgt := 21) (pc := 8) dX6_run_8 (by decide) (fun (c293 : a1.toInt ≤ x292.toInt) => ?_) (fun (c293 : ¬ (a1.toInt ≤ x292.toInt)) => ?_)
    · skip
      refine tw_iconst (pc := 21) dX6_run_21 (by decide) (fun x294 ex294 => ?_)
      refine tt_istore_n (pc := 22) dX6_run_22 (by decide) ?_
      show TT _ _ _ _ _ _ _ [(2, .inl x294), (0, .inr (some a0)), (1, .inl a1)] _ _
      refine tt_loc [(0, .inr (some a0)), (1, .inl a1), (2, .inl x294)] (List.forall_mem_cons.mpr ⟨(.tail _ (.head _)), List.forall_mem_cons.mpr ⟨(.tail _ (.tail _ (.head _))), List.forall_mem_cons.mpr ⟨(.head _), fun _ z => absurd z List.not_mem_nil⟩⟩⟩) ?_
      exact B23 501 h hw hf (by omega) (by omega) x294 (by omega) (by omega) (by omega)
    · skip
      refine tt_stop ?_
      rw [hQ]
      exact Or.inr ⟨rfl, rfl, rfl, trivial⟩
abbrev mX6_turn : tM := (RX6, cX6_turn, 3, 6, 143, false)
set_option maxHeartbeats 4000000 in
theorem h_X6_turn {l : Launch} {D : va_G} {N : Nat} {pk : Int} {τ : List Nat} (hN2 : 2 ≤ N) (hN8 : N ≤ 8) (hp0 : 0 ≤ pk) (hp64 : pk ≤ 64) {h : List tC} (hw : WT N pk τ h) (a0 : Nat) (ta0 : τ[a0]? = some 6) (a1 : Int32) (a2 : Int32) (la2 : 0 ≤ a2.toInt) (ua2 : a2.toInt ≤ 1) : TT l D mX6_turn (fun pc' loc' st' h' => tRt cX6_turn none (fun rv h' => ∃ τ1 : List Nat, tPre τ τ1 ∧ WT N pk τ1 h' ∧ Fr PXt τ h h' ∧ rv = none) pc' loc' st' h' ∨ (pc' = 7 ∧ st' = [] ∧ h' = h ∧ True) ∨ (pc' = 42 ∧ st' = [] ∧ h' = h ∧ True)) 2 8 0 [(0, .inr (some a0)), (1, .inl a1), (2, .inl a2)] [] h := by
  suffices HQ : ∀ Q0, Q0 = (fun pc' loc' st' h' => tRt cX6_turn none (fun rv h' => ∃ τ1 : List Nat, tPre τ τ1 ∧ WT N pk τ1 h' ∧ Fr PXt τ h h' ∧ rv = none) pc' loc' st' h' ∨ (pc' = 7 ∧ st' = [] ∧ h' = h ∧ True) ∨ (pc' = 42 ∧ st' = [] ∧ h' = h ∧ True)) → TT l D mX6_turn Q0 2 8 0 [(0, .inr (some a0)), (1, .inl a1), (2, .inl a2)] [] h from HQ _ rfl
  intro Q0 hQ
  have hf : Fr PXt τ h h := Fr.rf
  have hp : tPre τ τ := tPre.rf τ
  have ba1 := i_ty a1
  refine tt_iload_n (pc := 0) dX6_turn_0 (.tail _ (.head _)) ?_
  refine tt_callS (kc := 2) (ks := 8) (mc := 0) (ms := 0) (as := [.inl a1]) (st := []) (pc := 1) dX6_turn_1 lkX6_58 smX6_isLink rfl (by decide) (by decide) (Nat.le_of_ble_eq_true rfl) (g_X6_isLink hN2 hN8 hp0 hp64 hw a1) (fun rv h21 qh21 => ?_)
  obtain ⟨rfl, x22, rfl, lx22, ux22, Gx22, Zx22⟩ := qh21
  show TT _ _ _ _ _ _ _ _ [.inl x22] _
  refine tw_if (tgt := 17) (pc := 4) dX6_turn_4 (by decide) (fun (c25 : x22.toInt ≠ 0) => ?_) (fun (c25 : ¬ (x22.toInt ≠ 0)) => ?_)
  · obtain ⟨b23, b24⟩ := Gx22 (by omega)
    refine tt_aload_n (pc := 17) dX6_turn_17 (.head _) ?_
    refine tw_getr (pc := 18) dX6_turn_18 flX6_11 hw ta0 (by decide) rfl (fun f26 q27 ef26 gf26 tq27 => ?_)
    refine tt_iload_n (pc := 21) dX6_turn_21 (.tail _ (.head _)) ?_
    refine tw_ald (pc := 22) dX6_turn_22 hw tq27 rfl (by decide) (by omega) (by omega) (fun f28 q29 ef28 gf28 tq29 => ?_)
    refine tw_geti (pc := 23) dX6_turn_23 flX6_72 hw tq29 (by decide) rfl (fun f30 x31 ef30 gf30 lx31 ux31 => ?_)
    refine tw_if (tgt := 42) (pc := 26) dX6_turn_26 (by decide) (fun (c32 : x31.toInt = 0) => ?_) (fun (c32 : ¬ (x31.toInt = 0)) => ?_)
    · skip
      refine tt_stop ?_
      rw [hQ]
      exact Or.inr (Or.inr ⟨rfl, rfl, rfl, trivial⟩)
    · skip
      refine tt_aload_n (pc := 29) dX6_turn_29 (.head _) ?_
      refine tt_get (pc := 30) dX6_turn_30 flX6_11 ef26 gf26 ?_
      refine tt_iload_n (pc := 33) dX6_turn_33 (.tail _ (.head _)) ?_
      refine tt_aald (pc := 34) dX6_turn_34 ef28 (by decide) (i_nn (by omega)) gf28 ?_
      refine tw_geti (pc := 35) dX6_turn_35 flX6_92 hw tq29 (by decide) rfl (fun f33 x34 ef33 gf33 lx34 ux34 => ?_)
      refine tt_iload_n (pc := 38) dX6_turn_38 (.tail _ (.tail _ (.head _))) ?_
      refine tw_icmp (tgt := 52) (pc := 39) dX6_turn_39 (by decide) (fun (c35 : x34.toInt ≠ a2.toInt) => ?_) (fun (c35 : ¬ (x34.toInt ≠ a2.toInt)) => ?_)
      · skip
        refine tt_iload_n (pc := 52) dX6_turn_52 (.tail _ (.tail _ (.head _))) ?_
        refine tw_if (tgt := 64) (pc := 53) dX6_turn_53 (by decide) (fun (c36 : a2.toInt = 0) => ?_) (fun (c36 : ¬ (a2.toInt = 0)) => ?_)
        · skip
          refine tt_aload_n (pc := 64) dX6_turn_64 (.head _) ?_
          refine tt_iload_n (pc := 65) dX6_turn_65 (.tail _ (.head _)) ?_
          refine tw_callV (kc := 0) (ks := 0) (mc := 2) (ms := 8) (as := [.inl a1]) (st := []) (pc := 66) hw ta0 (by decide) dX6_turn_66 lkX6_100 imX6_goesDown seX6_goesDown rfl rfl (by decide) (by decide) (Nat.le_of_ble_eq_true rfl) (g_X6_goesDown hN2 hN8 hp0 hp64 hw a0 ta0 a1 (by omega) (by omega)) (fun rv h37 qh37 => ?_)
          obtain ⟨Th37, ph37, wh37, fh37, rfl⟩ := qh37
          have hfh37 := hf.tr (fh37.sub hp)
          have ta0 := tup ph37 ta0
          have hp38 := hp.tr ph37
          show TT _ _ _ _ _ _ _ _ [] _
          refine tt_stop ?_
          rw [hQ]
          exact Or.inl (Or.inl ⟨dX6_turn_69, rfl, rfl, _, hp38, wh37, hfh37, rfl⟩)
        · skip
          refine tt_aload_n (pc := 56) dX6_turn_56 (.head _) ?_
          refine tt_iload_n (pc := 57) dX6_turn_57 (.tail _ (.head _)) ?_
          refine tw_callV (kc := 0) (ks := 0) (mc := 2) (ms := 8) (as := [.inl a1]) (st := []) (pc := 58) hw ta0 (by decide) dX6_turn_58 lkX6_97 imX6_comesUp seX6_comesUp rfl rfl (by decide) (by decide) (Nat.le_of_ble_eq_true rfl) (g_X6_comesUp hN2 hN8 hp0 hp64 hw a0 ta0 a1 (by omega) (by omega)) (fun rv h39 qh39 => ?_)
          obtain ⟨Th39, ph39, wh39, fh39, rfl⟩ := qh39
          have hfh39 := hf.tr (fh39.sub hp)
          have ta0 := tup ph39 ta0
          have hp40 := hp.tr ph39
          show TT _ _ _ _ _ _ _ _ [] _
          refine tt_goto (tgt := 69) (pc := 61) dX6_turn_61 (by decide) ?_
          refine tt_stop ?_
          rw [hQ]
          exact Or.inl (Or.inl ⟨dX6_turn_69, rfl, rfl, _, hp40, wh39, hfh39, rfl⟩)
      · skip
        refine tt_stop ?_
        rw [hQ]
        exact Or.inr (Or.inr ⟨rfl, rfl, rfl, trivial⟩)
  · skip
    refine tt_stop ?_
    rw [hQ]
    exact Or.inr (Or.inl ⟨rfl, rfl, rfl, trivial⟩)
abbrev mX6_attach : tM := (RX6, cX6_attach, 4, 5, 119, false)
set_option maxHeartbeats 4000000 in
theorem h_X6_attach {l : Launch} {D : va_G} {N : Nat} {pk : Int} {τ : List Nat} (hN2 : 2 ≤ N) (hN8 : N ≤ 8) (hp0 : 0 ≤ pk) (hp64 : pk ≤ 64) {h : List tC} (hw : WT N pk τ h) (a0 : Nat) (ta0 : τ[a0]? = some 6) (a1 : Int32) (a2 : Int32) : TT l D mX6_attach (fun pc' loc' st' h' => tRt cX6_attach none (fun rv h' => ∃ τ1 : List Nat, tPre τ τ1 ∧ WT N pk τ1 h' ∧ Fr PXa τ h h' ∧ rv = none) pc' loc' st' h' ∨ (pc' = 20 ∧ st' = [] ∧ h' = h ∧ True) ∨ (pc' = 42 ∧ st' = [] ∧ h' = h ∧ True)) 2 8 0 [(0, .inr (some a0)), (1, .inl a1), (2, .inl a2)] [] h := by
  suffices HQ : ∀ Q0, Q0 = (fun pc' loc' st' h' => tRt cX6_attach none (fun rv h' => ∃ τ1 : List Nat, tPre τ τ1 ∧ WT N pk τ1 h' ∧ Fr PXa τ h h' ∧ rv = none) pc' loc' st' h' ∨ (pc' = 20 ∧ st' = [] ∧ h' = h ∧ True) ∨ (pc' = 42 ∧ st' = [] ∧ h' = h ∧ True)) → TT l D mX6_attach Q0 2 8 0 [(0, .inr (some a0)), (1, .inl a1), (2, .inl a2)] [] h from HQ _ rfl
  intro Q0 hQ
  have hf : Fr PXa τ h h := Fr.rf
  have hp : tPre τ τ := tPre.rf τ
  have ba1 := i_ty a1
  have ba2 := i_ty a2
  refine tt_iload_n (pc := 0) dX6_attach_0 (.tail _ (.head _)) ?_
  refine tt_callS (kc := 2) (ks := 8) (mc := 0) (ms := 0) (as := [.inl a1]) (st := []) (pc := 1) dX6_attach_1 lkX6_103 smX6_isPrefix rfl (by decide) (by decide) (Nat.le_of_ble_eq_true rfl) (g_X6_isPrefix hN2 hN8 hp0 hp64 hw a1) (fun rv h81 qh81 => ?_)
  obtain ⟨rfl, x82, rfl, lx82, ux82, Gx82, Zx82⟩ := qh81
  show TT _ _ _ _ _ _ _ _ [.inl x82] _
  refine tw_if (tgt := 20) (pc := 4) dX6_attach_4 (by decide) (fun (c85 : x82.toInt = 0) => ?_) (fun (c85 : ¬ (x82.toInt = 0)) => ?_)
  · skip
    refine tt_stop ?_
    rw [hQ]
    exact Or.inr (Or.inl ⟨rfl, rfl, rfl, trivial⟩)
  · obtain ⟨b83, b84⟩ := Gx82 (by omega)
    refine tt_iload_n (pc := 7) dX6_attach_7 (.tail _ (.tail _ (.head _))) ?_
    refine tw_iconst (pc := 8) dX6_attach_8 (by decide) (fun x86 ex86 => ?_)
    refine tw_icmp (tgt := 30) (pc := 9) dX6_attach_9 (by decide) (fun (c87 : a2.toInt = x86.toInt) => ?_) (fun (c87 : ¬ (a2.toInt = x86.toInt)) => ?_)
    · skip
      refine tt_aload_n (pc := 30) dX6_attach_30 (.head _) ?_
      refine tw_getr (pc := 31) dX6_attach_31 flX6_15 hw ta0 (by decide) rfl (fun f88 q89 ef88 gf88 tq89 => ?_)
      refine tt_iload_n (pc := 34) dX6_attach_34 (.tail _ (.head _)) ?_
      refine tw_ild (pc := 35) dX6_attach_35 hw tq89 rfl (by omega) (by omega) (fun f91 x90 ef91 gf91 lx90 ux90 => ?_)
      refine tt_istore_n (pc := 36) dX6_attach_36 (by decide) ?_
      show TT _ _ _ _ _ _ _ [(3, .inl x90), (0, .inr (some a0)), (1, .inl a1), (2, .inl a2)] _ _
      refine tt_iload_n (pc := 37) dX6_attach_37 (.head _) ?_
      refine tt_iload_n (pc := 38) dX6_attach_38 (.tail _ (.tail _ (.tail _ (.head _)))) ?_
      refine tw_icmp (tgt := 52) (pc := 39) dX6_attach_39 (by decide) (fun (c92 : x90.toInt ≠ a2.toInt) => ?_) (fun (c92 : ¬ (x90.toInt ≠ a2.toInt)) => ?_)
      · skip
        refine tt_aload_n (pc := 52) dX6_attach_52 (.tail _ (.head _)) ?_
        refine tt_get (pc := 53) dX6_attach_53 flX6_15 ef88 gf88 ?_
        refine tt_iload_n (pc := 56) dX6_attach_56 (.tail _ (.tail _ (.head _))) ?_
        refine tt_iload_n (pc := 57) dX6_attach_57 (.tail _ (.tail _ (.tail _ (.head _)))) ?_
        refine tw_ist (P := PXa) (pc := 58) dX6_attach_58 hw tq89 rfl (by omega) (by omega) (by omega) (by omega) (by decide) (fun f93 h94 eh94 gh94 kh94 wh94 fh94 => ?_)
        have hfh94 := hf.tr (fh94.sub hp)
        refine tt_iload_n (pc := 59) dX6_attach_59 (.head _) ?_
        refine tw_iconst (pc := 60) dX6_attach_60 (by decide) (fun x95 ex95 => ?_)
        refine tw_icmp (tgt := 84) (pc := 61) dX6_attach_61 (by decide) (fun (c96 : x90.toInt = x95.toInt) => ?_) (fun (c96 : ¬ (x90.toInt = x95.toInt)) => ?_)
        · exfalso
          omega
        · skip
          refine tt_aload_n (pc := 64) dX6_attach_64 (.tail _ (.head _)) ?_
          refine tt_aload_n (pc := 65) dX6_attach_65 (.tail _ (.head _)) ?_
          refine tw_getr (pc := 66) dX6_attach_66 flX6_50 wh94 ta0 (by decide) rfl (fun f97 q98 ef97 gf97 tq98 => ?_)
          refine tt_iload_n (pc := 69) dX6_attach_69 (.head _) ?_
          refine tw_ald (pc := 70) dX6_attach_70 wh94 tq98 rfl (by decide) (by omega) (by omega) (fun f99 q100 ef99 gf99 tq100 => ?_)
          refine tw_callV (kc := 1) (ks := 4) (mc := 1) (ms := 4) (as := [.inr (some q100)]) (st := []) (pc := 71) wh94 ta0 (by decide) dX6_attach_71 lkX6_110 imX6_tell seX6_tell rfl rfl (by decide) (by decide) (Nat.le_of_ble_eq_true rfl) (g_X6_tell hN2 hN8 hp0 hp64 wh94 a0 ta0 q100 tq100) (fun rv h101 qh101 => ?_)
          obtain ⟨Th101, ph101, wh101, fh101, rfl⟩ := qh101
          have hfh101 := hfh94.tr ((fh101.weak weak_PX_PXa).sub hp)
          have ta0 := tup ph101 ta0
          have hp102 := hp.tr ph101
          show TT _ _ _ _ _ _ _ _ [] _
          refine tt_aload_n (pc := 74) dX6_attach_74 (.tail _ (.head _)) ?_
          refine tt_aload_n (pc := 75) dX6_attach_75 (.tail _ (.head _)) ?_
          refine tw_getr (pc := 76) dX6_attach_76 flX6_50 wh101 ta0 (by decide) rfl (fun f103 q104 ef103 gf103 tq104 => ?_)
          refine tt_iload_n (pc := 79) dX6_attach_79 (.head _) ?_
          refine tw_ald (pc := 80) dX6_attach_80 wh101 tq104 rfl (by decide) (by omega) (by omega) (fun f105 q106 ef105 gf105 tq106 => ?_)
          refine tw_callV (kc := 1) (ks := 4) (mc := 0) (ms := 0) (as := [.inr (some q106)]) (st := []) (pc := 81) wh101 ta0 (by decide) dX6_attach_81 lkX6_114 imX6_check seX6_check rfl rfl (by decide) (by decide) (Nat.le_of_ble_eq_true rfl) (g_X6_check hN2 hN8 hp0 hp64 wh101 a0 ta0 q106 tq106) (fun rv h107 qh107 => ?_)
          obtain ⟨wh107, fh107, rfl⟩ := qh107
          have hfh107 := hfh101.tr ((fh107.weak weak_PX_PXa).sub hp102)
          show TT _ _ _ _ _ _ _ _ [] _
          refine tt_iload_n (pc := 84) dX6_attach_84 (.tail _ (.tail _ (.tail _ (.head _)))) ?_
          refine tw_iconst (pc := 85) dX6_attach_85 (by decide) (fun x108 ex108 => ?_)
          refine tw_icmp (tgt := 109) (pc := 86) dX6_attach_86 (by decide) (fun (c109 : a2.toInt = x108.toInt) => ?_) (fun (c109 : ¬ (a2.toInt = x108.toInt)) => ?_)
          · skip
            refine tt_stop ?_
            rw [hQ]
            exact Or.inl (Or.inl ⟨dX6_attach_109, rfl, rfl, _, hp102, wh107, hfh107, rfl⟩)
          · exfalso
            omega
      · skip
        refine tt_stop ?_
        rw [hQ]
        exact Or.inr (Or.inr ⟨rfl, rfl, rfl, trivial⟩)
    · skip
      refine tt_aload_n (pc := 12) dX6_attach_12 (.head _) ?_
      refine tt_iload_n (pc := 13) dX6_attach_13 (.tail _ (.tail _ (.head _))) ?_
      refine tw_callV (kc := 2) (ks := 8) (mc := 0) (ms := 0) (as := [.inl a2]) (st := []) (pc := 14) hw ta0 (by decide) dX6_attach_14 lkX6_62 imX6_isRouter seX6_isRouter rfl rfl (by decide) (by decide) (Nat.le_of_ble_eq_true rfl) (g_X6_isRouter hN2 hN8 hp0 hp64 hw a0 ta0 a2) (fun rv h110 qh110 => ?_)
      obtain ⟨rfl, x111, rfl, lx111, ux111, Gx111, Zx111⟩ := qh110
      show TT _ _ _ _ _ _ _ _ [.inl x111] _
      refine tw_if (tgt := 30) (pc := 17) dX6_attach_17 (by decide) (fun (c114 : x111.toInt ≠ 0) => ?_) (fun (c114 : ¬ (x111.toInt ≠ 0)) => ?_)
      · obtain ⟨b112, b113⟩ := Gx111 (by omega)
        refine tt_aload_n (pc := 30) dX6_attach_30 (.head _) ?_
        refine tw_getr (pc := 31) dX6_attach_31 flX6_15 hw ta0 (by decide) rfl (fun f115 q116 ef115 gf115 tq116 => ?_)
        refine tt_iload_n (pc := 34) dX6_attach_34 (.tail _ (.head _)) ?_
        refine tw_ild (pc := 35) dX6_attach_35 hw tq116 rfl (by omega) (by omega) (fun f118 x117 ef118 gf118 lx117 ux117 => ?_)
        refine tt_istore_n (pc := 36) dX6_attach_36 (by decide) ?_
        show TT _ _ _ _ _ _ _ [(3, .inl x117), (0, .inr (some a0)), (1, .inl a1), (2, .inl a2)] _ _
        refine tt_iload_n (pc := 37) dX6_attach_37 (.head _) ?_
        refine tt_iload_n (pc := 38) dX6_attach_38 (.tail _ (.tail _ (.tail _ (.head _)))) ?_
        refine tw_icmp (tgt := 52) (pc := 39) dX6_attach_39 (by decide) (fun (c119 : x117.toInt ≠ a2.toInt) => ?_) (fun (c119 : ¬ (x117.toInt ≠ a2.toInt)) => ?_)
        · skip
          refine tt_aload_n (pc := 52) dX6_attach_52 (.tail _ (.head _)) ?_
          refine tt_get (pc := 53) dX6_attach_53 flX6_15 ef115 gf115 ?_
          refine tt_iload_n (pc := 56) dX6_attach_56 (.tail _ (.tail _ (.head _))) ?_
          refine tt_iload_n (pc := 57) dX6_attach_57 (.tail _ (.tail _ (.tail _ (.head _)))) ?_
          refine tw_ist (P := PXa) (pc := 58) dX6_attach_58 hw tq116 rfl (by omega) (by omega) (by omega) (by omega) (by decide) (fun f120 h121 eh121 gh121 kh121 wh121 fh121 => ?_)
          have hfh121 := hf.tr (fh121.sub hp)
          refine tt_iload_n (pc := 59) dX6_attach_59 (.head _) ?_
          refine tw_iconst (pc := 60) dX6_attach_60 (by decide) (fun x122 ex122 => ?_)
          refine tw_icmp (tgt := 84) (pc := 61) dX6_attach_61 (by decide) (fun (c123 : x117.toInt = x122.toInt) => ?_) (fun (c123 : ¬ (x117.toInt = x122.toInt)) => ?_)
          · skip
            refine tt_iload_n (pc := 84) dX6_attach_84 (.tail _ (.tail _ (.tail _ (.head _)))) ?_
            refine tw_iconst (pc := 85) dX6_attach_85 (by decide) (fun x124 ex124 => ?_)
            refine tw_icmp (tgt := 109) (pc := 86) dX6_attach_86 (by decide) (fun (c125 : a2.toInt = x124.toInt) => ?_) (fun (c125 : ¬ (a2.toInt = x124.toInt)) => ?_)
            · exfalso
              omega
            · skip
              refine tt_aload_n (pc := 89) dX6_attach_89 (.tail _ (.head _)) ?_
              refine tt_aload_n (pc := 90) dX6_attach_90 (.tail _ (.head _)) ?_
              refine tw_getr (pc := 91) dX6_attach_91 flX6_50 wh121 ta0 (by decide) rfl (fun f126 q127 ef126 gf126 tq127 => ?_)
              refine tt_iload_n (pc := 94) dX6_attach_94 (.tail _ (.tail _ (.tail _ (.head _)))) ?_
              refine tw_ald (pc := 95) dX6_attach_95 wh121 tq127 rfl (by decide) (by omega) (by omega) (fun f128 q129 ef128 gf128 tq129 => ?_)
              refine tw_callV (kc := 1) (ks := 4) (mc := 1) (ms := 4) (as := [.inr (some q129)]) (st := []) (pc := 96) wh121 ta0 (by decide) dX6_attach_96 lkX6_110 imX6_tell seX6_tell rfl rfl (by decide) (by decide) (Nat.le_of_ble_eq_true rfl) (g_X6_tell hN2 hN8 hp0 hp64 wh121 a0 ta0 q129 tq129) (fun rv h130 qh130 => ?_)
              obtain ⟨Th130, ph130, wh130, fh130, rfl⟩ := qh130
              have hfh130 := hfh121.tr ((fh130.weak weak_PX_PXa).sub hp)
              have ta0 := tup ph130 ta0
              have hp131 := hp.tr ph130
              show TT _ _ _ _ _ _ _ _ [] _
              refine tt_aload_n (pc := 99) dX6_attach_99 (.tail _ (.head _)) ?_
              refine tt_aload_n (pc := 100) dX6_attach_100 (.tail _ (.head _)) ?_
              refine tw_getr (pc := 101) dX6_attach_101 flX6_50 wh130 ta0 (by decide) rfl (fun f132 q133 ef132 gf132 tq133 => ?_)
              refine tt_iload_n (pc := 104) dX6_attach_104 (.tail _ (.tail _ (.tail _ (.head _)))) ?_
              refine tw_ald (pc := 105) dX6_attach_105 wh130 tq133 rfl (by decide) (by omega) (by omega) (fun f134 q135 ef134 gf134 tq135 => ?_)
              refine tw_callV (kc := 1) (ks := 4) (mc := 0) (ms := 0) (as := [.inr (some q135)]) (st := []) (pc := 106) wh130 ta0 (by decide) dX6_attach_106 lkX6_114 imX6_check seX6_check rfl rfl (by decide) (by decide) (Nat.le_of_ble_eq_true rfl) (g_X6_check hN2 hN8 hp0 hp64 wh130 a0 ta0 q135 tq135) (fun rv h136 qh136 => ?_)
              obtain ⟨wh136, fh136, rfl⟩ := qh136
              have hfh136 := hfh130.tr ((fh136.weak weak_PX_PXa).sub hp131)
              show TT _ _ _ _ _ _ _ _ [] _
              refine tt_stop ?_
              rw [hQ]
              exact Or.inl (Or.inl ⟨dX6_attach_109, rfl, rfl, _, hp131, wh136, hfh136, rfl⟩)
          · skip
            refine tt_aload_n (pc := 64) dX6_attach_64 (.tail _ (.head _)) ?_
            refine tt_aload_n (pc := 65) dX6_attach_65 (.tail _ (.head _)) ?_
            refine tw_getr (pc := 66) dX6_attach_66 flX6_50 wh121 ta0 (by decide) rfl (fun f137 q138 ef137 gf137 tq138 => ?_)
            refine tt_iload_n (pc := 69) dX6_attach_69 (.head _) ?_
            refine tw_ald (pc := 70) dX6_attach_70 wh121 tq138 rfl (by decide) (by omega) (by omega) (fun f139 q140 ef139 gf139 tq140 => ?_)
            refine tw_callV (kc := 1) (ks := 4) (mc := 1) (ms := 4) (as := [.inr (some q140)]) (st := []) (pc := 71) wh121 ta0 (by decide) dX6_attach_71 lkX6_110 imX6_tell seX6_tell rfl rfl (by decide) (by decide) (Nat.le_of_ble_eq_true rfl) (g_X6_tell hN2 hN8 hp0 hp64 wh121 a0 ta0 q140 tq140) (fun rv h141 qh141 => ?_)
            obtain ⟨Th141, ph141, wh141, fh141, rfl⟩ := qh141
            have hfh141 := hfh121.tr ((fh141.weak weak_PX_PXa).sub hp)
            have ta0 := tup ph141 ta0
            have hp142 := hp.tr ph141
            show TT _ _ _ _ _ _ _ _ [] _
            refine tt_aload_n (pc := 74) dX6_attach_74 (.tail _ (.head _)) ?_
            refine tt_aload_n (pc := 75) dX6_attach_75 (.tail _ (.head _)) ?_
            refine tw_getr (pc := 76) dX6_attach_76 flX6_50 wh141 ta0 (by decide) rfl (fun f143 q144 ef143 gf143 tq144 => ?_)
            refine tt_iload_n (pc := 79) dX6_attach_79 (.head _) ?_
            refine tw_ald (pc := 80) dX6_attach_80 wh141 tq144 rfl (by decide) (by omega) (by omega) (fun f145 q146 ef145 gf145 tq146 => ?_)
            refine tw_callV (kc := 1) (ks := 4) (mc := 0) (ms := 0) (as := [.inr (some q146)]) (st := []) (pc := 81) wh141 ta0 (by decide) dX6_attach_81 lkX6_114 imX6_check seX6_check rfl rfl (by decide) (by decide) (Nat.le_of_ble_eq_true rfl) (g_X6_check hN2 hN8 hp0 hp64 wh141 a0 ta0 q146 tq146) (fun rv h147 qh147 => ?_)
            obtain ⟨wh147, fh147, rfl⟩ := qh147
            have hfh147 := hfh141.tr ((fh147.weak weak_PX_PXa).sub hp142)
            show TT _ _ _ _ _ _ _ _ [] _
            refine tt_iload_n (pc := 84) dX6_attach_84 (.tail _ (.tail _ (.tail _ (.head _)))) ?_
            refine tw_iconst (pc := 85) dX6_attach_85 (by decide) (fun x148 ex148 => ?_)
            refine tw_icmp (tgt := 109) (pc := 86) dX6_attach_86 (by decide) (fun (c149 : a2.toInt = x148.toInt) => ?_) (fun (c149 : ¬ (a2.toInt = x148.toInt)) => ?_)
            · exfalso
              omega
            · skip
              refine tt_aload_n (pc := 89) dX6_attach_89 (.tail _ (.head _)) ?_
              refine tt_aload_n (pc := 90) dX6_attach_90 (.tail _ (.head _)) ?_
              refine tw_getr (pc := 91) dX6_attach_91 flX6_50 wh147 ta0 (by decide) rfl (fun f150 q151 ef150 gf150 tq151 => ?_)
              refine tt_iload_n (pc := 94) dX6_attach_94 (.tail _ (.tail _ (.tail _ (.head _)))) ?_
              refine tw_ald (pc := 95) dX6_attach_95 wh147 tq151 rfl (by decide) (by omega) (by omega) (fun f152 q153 ef152 gf152 tq153 => ?_)
              refine tw_callV (kc := 0) (ks := 0) (mc := 1) (ms := 4) (as := [.inr (some q153)]) (st := []) (pc := 96) wh147 ta0 (by decide) dX6_attach_96 lkX6_110 imX6_tell seX6_tell rfl rfl (by decide) (by decide) (Nat.le_of_ble_eq_true rfl) (g_X6_tell hN2 hN8 hp0 hp64 wh147 a0 ta0 q153 tq153) (fun rv h154 qh154 => ?_)
              obtain ⟨Th154, ph154, wh154, fh154, rfl⟩ := qh154
              have hfh154 := hfh147.tr ((fh154.weak weak_PX_PXa).sub hp142)
              have ta0 := tup ph154 ta0
              have hp155 := hp142.tr ph154
              show TT _ _ _ _ _ _ _ _ [] _
              refine tt_aload_n (pc := 99) dX6_attach_99 (.tail _ (.head _)) ?_
              refine tt_aload_n (pc := 100) dX6_attach_100 (.tail _ (.head _)) ?_
              refine tw_getr (pc := 101) dX6_attach_101 flX6_50 wh154 ta0 (by decide) rfl (fun f156 q157 ef156 gf156 tq157 => ?_)
              refine tt_iload_n (pc := 104) dX6_attach_104 (.tail _ (.tail _ (.tail _ (.head _)))) ?_
              refine tw_ald (pc := 105) dX6_attach_105 wh154 tq157 rfl (by decide) (by omega) (by omega) (fun f158 q159 ef158 gf158 tq159 => ?_)
              refine tw_callV (kc := 0) (ks := 0) (mc := 0) (ms := 0) (as := [.inr (some q159)]) (st := []) (pc := 106) wh154 ta0 (by decide) dX6_attach_106 lkX6_114 imX6_check seX6_check rfl rfl (by decide) (by decide) (Nat.le_of_ble_eq_true rfl) (g_X6_check hN2 hN8 hp0 hp64 wh154 a0 ta0 q159 tq159) (fun rv h160 qh160 => ?_)
              obtain ⟨wh160, fh160, rfl⟩ := qh160
              have hfh160 := hfh154.tr ((fh160.weak weak_PX_PXa).sub hp155)
              show TT _ _ _ _ _ _ _ _ [] _
              refine tt_stop ?_
              rw [hQ]
              exact Or.inl (Or.inl ⟨dX6_attach_109, rfl, rfl, _, hp155, wh160, hfh160, rfl⟩)
        · skip
          refine tt_stop ?_
          rw [hQ]
          exact Or.inr (Or.inr ⟨rfl, rfl, rfl, trivial⟩)
      · skip
        refine tt_stop ?_
        rw [hQ]
        exact Or.inr (Or.inl ⟨rfl, rfl, rfl, trivial⟩)
