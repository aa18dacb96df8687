abbrev mX0_isUpAt : tM := (RX0, cX0_isUpAt, 2, 0, 0, false)
set_option maxHeartbeats 4000000 in
theorem g_X0_isUpAt {l : Launch} {D : va_G} {N : Nat} {pk : Int} {τ : List Nat} (hN2 : 2 ≤ N) (hN8 : N ≤ 8) (hp0 : 0 ≤ pk) (hp64 : pk ≤ 64) {h : List tC} (hw : WT N pk τ h) (a0 : Nat) (ta0 : τ[a0]? = some 0) (a1 : Int32) : TMc l D yX0_isUpAt cX0_isUpAt 2 (some .boolean) 0 0 0 0 [.inr (some a0), .inl a1] h (fun rv h' => h = h' ∧ ∃ x : Int32, rv = some (.inl x) ∧ 0 ≤ x.toInt ∧ x.toInt ≤ 1) := by
  refine tmc_of false rfl (by decide) (Nat.le_of_ble_eq_true rfl) ?_
  suffices HQ : ∀ Q0, Q0 = tRt cX0_isUpAt (some .boolean) (fun rv h' => h = h' ∧ ∃ x : Int32, rv = some (.inl x) ∧ 0 ≤ x.toInt ∧ x.toInt ≤ 1) → TT l D mX0_isUpAt Q0 0 0 0 [(0, .inr (some a0)), (1, .inl a1)] [] h from HQ _ rfl
  intro Q0 hQ
  have B27 : TT l D mX0_isUpAt Q0 0 0 27 [] [] h := by
    refine tw_iconst (pc := 27) dX0_isUpAt_27 (by decide) (fun x12 ex12 => ?_)
    refine tt_stop ?_
    rw [hQ]
    exact Or.inr (Or.inl ⟨x12, dX0_isUpAt_28, rfl, Or.inr ⟨rfl, bool01 (by omega) (by omega)⟩, rfl, x12, rfl, by omega, by omega⟩)
  have B23 : TT l D mX0_isUpAt Q0 0 0 23 [] [] h := by
    refine tw_iconst (pc := 23) dX0_isUpAt_23 (by decide) (fun x13 ex13 => ?_)
    refine tt_goto (tgt := 28) (pc := 24) dX0_isUpAt_24 (by decide) ?_
    refine tt_stop ?_
    rw [hQ]
    exact Or.inr (Or.inl ⟨x13, dX0_isUpAt_28, rfl, Or.inr ⟨rfl, bool01 (by omega) (by omega)⟩, rfl, x13, rfl, by omega, by omega⟩)
  have ba1 := i_ty a1
  refine tt_aload_n (pc := 0) dX0_isUpAt_0 (.head _) ?_
  refine tw_geti (pc := 1) dX0_isUpAt_1 flX0_15 hw ta0 (by decide) rfl (fun f14 x15 ef14 gf14 lx15 ux15 => ?_)
  refine tw_if (tgt := 27) (pc := 4) dX0_isUpAt_4 (by decide) (fun (c16 : x15.toInt = 0) => ?_) (fun (c16 : ¬ (x15.toInt = 0)) => ?_)
  · skip
    refine tt_loc [] (fun _ z => absurd z List.not_mem_nil) ?_
    exact B27 
  · skip
    refine tt_iload_n (pc := 7) dX0_isUpAt_7 (.tail _ (.head _)) ?_
    refine tt_aload_n (pc := 8) dX0_isUpAt_8 (.head _) ?_
    refine tw_geti (pc := 9) dX0_isUpAt_9 flX0_18 hw ta0 (by decide) rfl (fun f17 x18 ef17 gf17 lx18 ux18 => ?_)
    refine tw_icmp (tgt := 23) (pc := 12) dX0_isUpAt_12 (by decide) (fun (c19 : a1.toInt = x18.toInt) => ?_) (fun (c19 : ¬ (a1.toInt = x18.toInt)) => ?_)
    · skip
      refine tt_loc [] (fun _ z => absurd z List.not_mem_nil) ?_
      exact B23 
    · skip
      refine tt_iload_n (pc := 15) dX0_isUpAt_15 (.tail _ (.head _)) ?_
      refine tt_aload_n (pc := 16) dX0_isUpAt_16 (.head _) ?_
      refine tw_geti (pc := 17) dX0_isUpAt_17 flX0_22 hw ta0 (by decide) rfl (fun f20 x21 ef20 gf20 lx21 ux21 => ?_)
      refine tw_icmp (tgt := 27) (pc := 20) dX0_isUpAt_20 (by decide) (fun (c22 : a1.toInt ≠ x21.toInt) => ?_) (fun (c22 : ¬ (a1.toInt ≠ x21.toInt)) => ?_)
      · skip
        refine tt_loc [] (fun _ z => absurd z List.not_mem_nil) ?_
        exact B27 
      · skip
        refine tt_loc [] (fun _ z => absurd z List.not_mem_nil) ?_
        exact B23 
abbrev mX0_otherEnd : tM := (RX0, cX0_otherEnd, 2, 0, 0, false)
set_option maxHeartbeats 4000000 in
theorem g_X0_otherEnd {l : Launch} {D : va_G} {N : Nat} {pk : Int} {τ : List Nat} (hN2 : 2 ≤ N) (hN8 : N ≤ 8) (hp0 : 0 ≤ pk) (hp64 : pk ≤ 64) {h : List tC} (hw : WT N pk τ h) (a0 : Nat) (ta0 : τ[a0]? = some 0) (a1 : Int32) : TMc l D yX0_otherEnd cX0_otherEnd 2 (some .int) 0 0 0 0 [.inr (some a0), .inl a1] h (fun rv h' => h = h' ∧ ∃ x : Int32, rv = some (.inl x) ∧ 0 ≤ x.toInt ∧ x.toInt ≤ (N : Int) - 1) := by
  refine tmc_of false rfl (by decide) (Nat.le_of_ble_eq_true rfl) ?_
  suffices HQ : ∀ Q0, Q0 = tRt cX0_otherEnd (some .int) (fun rv h' => h = h' ∧ ∃ x : Int32, rv = some (.inl x) ∧ 0 ≤ x.toInt ∧ x.toInt ≤ (N : Int) - 1) → TT l D mX0_otherEnd Q0 0 0 0 [(0, .inr (some a0)), (1, .inl a1)] [] h from HQ _ rfl
  intro Q0 hQ
  have ba1 := i_ty a1
  refine tt_iload_n (pc := 0) dX0_otherEnd_0 (.tail _ (.head _)) ?_
  refine tt_aload_n (pc := 1) dX0_otherEnd_1 (.head _) ?_
  refine tw_geti (pc := 2) dX0_otherEnd_2 flX0_18 hw ta0 (by decide) rfl (fun f6 x7 ef6 gf6 lx7 ux7 => ?_)
  refine tw_icmp (tgt := 15) (pc := 5) dX0_otherEnd_5 (by decide) (fun (c8 : a1.toInt ≠ x7.toInt) => ?_) (fun (c8 : ¬ (a1.toInt ≠ x7.toInt)) => ?_)
  · skip
    refine tt_aload_n (pc := 15) dX0_otherEnd_15 (.head _) ?_
    refine tt_get (pc := 16) dX0_otherEnd_16 flX0_18 ef6 gf6 ?_
    refine tt_stop ?_
    rw [hQ]
    exact Or.inr (Or.inl ⟨x7, dX0_otherEnd_19, rfl, Or.inl rfl, rfl, x7, rfl, by omega, by omega⟩)
  · skip
    refine tt_aload_n (pc := 8) dX0_otherEnd_8 (.head _) ?_
    refine tw_geti (pc := 9) dX0_otherEnd_9 flX0_22 hw ta0 (by decide) rfl (fun f9 x10 ef9 gf9 lx10 ux10 => ?_)
    refine tt_goto (tgt := 19) (pc := 12) dX0_otherEnd_12 (by decide) ?_
    refine tt_stop ?_
    rw [hQ]
    exact Or.inr (Or.inl ⟨x10, dX0_otherEnd_19, rfl, Or.inl rfl, rfl, x10, rfl, by omega, by omega⟩)
abbrev mX0_queueOf : tM := (RX0, cX0_queueOf, 2, 0, 0, false)
set_option maxHeartbeats 4000000 in
theorem g_X0_queueOf {l : Launch} {D : va_G} {N : Nat} {pk : Int} {τ : List Nat} (hN2 : 2 ≤ N) (hN8 : N ≤ 8) (hp0 : 0 ≤ pk) (hp64 : pk ≤ 64) {h : List tC} (hw : WT N pk τ h) (a0 : Nat) (ta0 : τ[a0]? = some 0) (a1 : Int32) : TMc l D yX0_queueOf cX0_queueOf 2 (some (.object "LabelNet$MessageQueue")) 0 0 0 0 [.inr (some a0), .inl a1] h (fun rv h' => h = h' ∧ ∃ q : Nat, rv = some (.inr (some q)) ∧ τ[q]? = some 2) := by
  refine tmc_of false rfl (by decide) (Nat.le_of_ble_eq_true rfl) ?_
  suffices HQ : ∀ Q0, Q0 = tRt cX0_queueOf (some (.object "LabelNet$MessageQueue")) (fun rv h' => h = h' ∧ ∃ q : Nat, rv = some (.inr (some q)) ∧ τ[q]? = some 2) → TT l D mX0_queueOf Q0 0 0 0 [(0, .inr (some a0)), (1, .inl a1)] [] h from HQ _ rfl
  intro Q0 hQ
  have ba1 := i_ty a1
  refine tt_aload_n (pc := 0) dX0_queueOf_0 (.head _) ?_
  refine tw_getr (pc := 1) dX0_queueOf_1 flX0_30 hw ta0 (by decide) rfl (fun f12 q13 ef12 gf12 tq13 => ?_)
  refine tt_iload_n (pc := 4) dX0_queueOf_4 (.tail _ (.head _)) ?_
  refine tt_aload_n (pc := 5) dX0_queueOf_5 (.head _) ?_
  refine tw_geti (pc := 6) dX0_queueOf_6 flX0_18 hw ta0 (by decide) rfl (fun f14 x15 ef14 gf14 lx15 ux15 => ?_)
  refine tw_icmp (tgt := 16) (pc := 9) dX0_queueOf_9 (by decide) (fun (c16 : a1.toInt ≠ x15.toInt) => ?_) (fun (c16 : ¬ (a1.toInt ≠ x15.toInt)) => ?_)
  · skip
    refine tw_iconst (pc := 16) dX0_queueOf_16 (by decide) (fun x17 ex17 => ?_)
    refine tw_ald (pc := 17) dX0_queueOf_17 hw tq13 rfl (by decide) (by omega) (by omega) (fun f18 q19 ef18 gf18 tq19 => ?_)
    refine tt_stop ?_
    rw [hQ]
    exact Or.inr (Or.inr ⟨_, _, dX0_queueOf_18, rfl, rfl, rfl, q19, rfl, tq19⟩)
  · skip
    refine tw_iconst (pc := 12) dX0_queueOf_12 (by decide) (fun x20 ex20 => ?_)
    refine tt_goto (tgt := 17) (pc := 13) dX0_queueOf_13 (by decide) ?_
    refine tw_ald (pc := 17) dX0_queueOf_17 hw tq13 rfl (by decide) (by omega) (by omega) (fun f21 q22 ef21 gf21 tq22 => ?_)
    refine tt_stop ?_
    rw [hQ]
    exact Or.inr (Or.inr ⟨_, _, dX0_queueOf_18, rfl, rfl, rfl, q22, rfl, tq22⟩)
abbrev mX6_isLink : tM := (RX6, cX6_isLink, 1, 0, 0, false)
set_option maxHeartbeats 4000000 in
theorem g_X6_isLink {l : Launch} {D : va_G} {N : Nat} {pk : Int} {τ : List Nat} (hN2 : 2 ≤ N) (hN8 : N ≤ 8) (hp0 : 0 ≤ pk) (hp64 : pk ≤ 64) {h : List tC} (hw : WT N pk τ h) (a0 : Int32) : TMc l D yX6_isLink cX6_isLink 1 (some .boolean) 0 0 0 0 [.inl a0] h (fun rv h' => h = h' ∧ ∃ x : Int32, rv = some (.inl x) ∧ 0 ≤ x.toInt ∧ x.toInt ≤ 1 ∧ (x.toInt ≠ 0 → 0 ≤ a0.toInt ∧ a0.toInt ≤ 11) ∧ (x.toInt = 0 → a0.toInt < 0 ∨ 11 < a0.toInt)) := by
  refine tmc_of false rfl (by decide) (Nat.le_of_ble_eq_true rfl) ?_
  suffices HQ : ∀ Q0, Q0 = tRt cX6_isLink (some .boolean) (fun rv h' => h = h' ∧ ∃ x : Int32, rv = some (.inl x) ∧ 0 ≤ x.toInt ∧ x.toInt ≤ 1 ∧ (x.toInt ≠ 0 → 0 ≤ a0.toInt ∧ a0.toInt ≤ 11) ∧ (x.toInt = 0 → a0.toInt < 0 ∨ 11 < a0.toInt)) → TT l D mX6_isLink Q0 0 0 0 [(0, .inl a0)] [] h from HQ _ rfl
  intro Q0 hQ
  have ba0 := i_ty a0
  refine tt_iload_n (pc := 0) dX6_isLink_0 (.head _) ?_
  refine tw_if (tgt := 14) (pc := 1) dX6_isLink_1 (by decide) (fun (c7 : a0.toInt < 0) => ?_) (fun (c7 : ¬ (a0.toInt < 0)) => ?_)
  · skip
    refine tw_iconst (pc := 14) dX6_isLink_14 (by decide) (fun x8 ex8 => ?_)
    refine tt_stop ?_
    rw [hQ]
    exact Or.inr (Or.inl ⟨x8, dX6_isLink_15, rfl, Or.inr ⟨rfl, bool01 (by omega) (by omega)⟩, rfl, x8, rfl, by omega, by omega, (fun zz => ⟨by omega, by omega⟩), (fun zz => by omega)⟩)
  · skip
    refine tt_iload_n (pc := 4) dX6_isLink_4 (.head _) ?_
    refine tw_bipush (pc := 5) dX6_isLink_5 (by decide) (fun x9 ex9 => ?_)
    refine tw_icmp (tgt := 14) (pc := 7) dX6_isLink_7 (by decide) (fun (c10 : x9.toInt ≤ a0.toInt) => ?_) (fun (c10 : ¬ (x9.toInt ≤ a0.toInt)) => ?_)
    · skip
      refine tw_iconst (pc := 14) dX6_isLink_14 (by decide) (fun x11 ex11 => ?_)
      refine tt_stop ?_
      rw [hQ]
      exact Or.inr (Or.inl ⟨x11, dX6_isLink_15, rfl, Or.inr ⟨rfl, bool01 (by omega) (by omega)⟩, rfl, x11, rfl, by omega, by omega, (fun zz => ⟨by omega, by omega⟩), (fun zz => by omega)⟩)
    · skip
      refine tw_iconst (pc := 10) dX6_isLink_10 (by decide) (fun x12 ex12 => ?_)
      refine tt_goto (tgt := 15) (pc := 11) dX6_isLink_11 (by decide) ?_
      refine tt_stop ?_
      rw [hQ]
      exact Or.inr (Or.inl ⟨x12, dX6_isLink_15, rfl, Or.inr ⟨rfl, bool01 (by omega) (by omega)⟩, rfl, x12, rfl, by omega, by omega, (fun zz => ⟨by omega, by omega⟩), (fun zz => by omega)⟩)
abbrev mX6_isEnd : tM := (RX6, cX6_isEnd, 1, 0, 0, false)
set_option maxHeartbeats 4000000 in
theorem g_X6_isEnd {l : Launch} {D : va_G} {N : Nat} {pk : Int} {τ : List Nat} (hN2 : 2 ≤ N) (hN8 : N ≤ 8) (hp0 : 0 ≤ pk) (hp64 : pk ≤ 64) {h : List tC} (hw : WT N pk τ h) (a0 : Int32) : TMc l D yX6_isEnd cX6_isEnd 1 (some .boolean) 0 0 0 0 [.inl a0] h (fun rv h' => h = h' ∧ ∃ x : Int32, rv = some (.inl x) ∧ 0 ≤ x.toInt ∧ x.toInt ≤ 1 ∧ (x.toInt ≠ 0 → 0 ≤ a0.toInt ∧ a0.toInt ≤ 1) ∧ (x.toInt = 0 → a0.toInt < 0 ∨ 1 < a0.toInt)) := by
  refine tmc_of false rfl (by decide) (Nat.le_of_ble_eq_true rfl) ?_
  suffices HQ : ∀ Q0, Q0 = tRt cX6_isEnd (some .boolean) (fun rv h' => h = h' ∧ ∃ x : Int32, rv = some (.inl x) ∧ 0 ≤ x.toInt ∧ x.toInt ≤ 1 ∧ (x.toInt ≠ 0 → 0 ≤ a0.toInt ∧ a0.toInt ≤ 1) ∧ (x.toInt = 0 → a0.toInt < 0 ∨ 1 < a0.toInt)) → TT l D mX6_isEnd Q0 0 0 0 [(0, .inl a0)] [] h from HQ _ rfl
  intro Q0 hQ
  have ba0 := i_ty a0
  refine tt_iload_n (pc := 0) dX6_isEnd_0 (.head _) ?_
  refine tw_if (tgt := 13) (pc := 1) dX6_isEnd_1 (by decide) (fun (c7 : a0.toInt < 0) => ?_) (fun (c7 : ¬ (a0.toInt < 0)) => ?_)
  · skip
    refine tw_iconst (pc := 13) dX6_isEnd_13 (by decide) (fun x8 ex8 => ?_)
    refine tt_stop ?_
    rw [hQ]
    exact Or.inr (Or.inl ⟨x8, dX6_isEnd_14, rfl, Or.inr ⟨rfl, bool01 (by omega) (by omega)⟩, rfl, x8, rfl, by omega, by omega, (fun zz => ⟨by omega, by omega⟩), (fun zz => by omega)⟩)
  · skip
    refine tt_iload_n (pc := 4) dX6_isEnd_4 (.head _) ?_
    refine tw_iconst (pc := 5) dX6_isEnd_5 (by decide) (fun x9 ex9 => ?_)
    refine tw_icmp (tgt := 13) (pc := 6) dX6_isEnd_6 (by decide) (fun (c10 : x9.toInt ≤ a0.toInt) => ?_) (fun (c10 : ¬ (x9.toInt ≤ a0.toInt)) => ?_)
    · skip
      refine tw_iconst (pc := 13) dX6_isEnd_13 (by decide) (fun x11 ex11 => ?_)
      refine tt_stop ?_
      rw [hQ]
      exact Or.inr (Or.inl ⟨x11, dX6_isEnd_14, rfl, Or.inr ⟨rfl, bool01 (by omega) (by omega)⟩, rfl, x11, rfl, by omega, by omega, (fun zz => ⟨by omega, by omega⟩), (fun zz => by omega)⟩)
    · skip
      refine tw_iconst (pc := 9) dX6_isEnd_9 (by decide) (fun x12 ex12 => ?_)
      refine tt_goto (tgt := 14) (pc := 10) dX6_isEnd_10 (by decide) ?_
      refine tt_stop ?_
      rw [hQ]
      exact Or.inr (Or.inl ⟨x12, dX6_isEnd_14, rfl, Or.inr ⟨rfl, bool01 (by omega) (by omega)⟩, rfl, x12, rfl, by omega, by omega, (fun zz => ⟨by omega, by omega⟩), (fun zz => by omega)⟩)
abbrev mX6_isPrefix : tM := (RX6, cX6_isPrefix, 1, 0, 0, false)
set_option maxHeartbeats 4000000 in
theorem g_X6_isPrefix {l : Launch} {D : va_G} {N : Nat} {pk : Int} {τ : List Nat} (hN2 : 2 ≤ N) (hN8 : N ≤ 8) (hp0 : 0 ≤ pk) (hp64 : pk ≤ 64) {h : List tC} (hw : WT N pk τ h) (a0 : Int32) : TMc l D yX6_isPrefix cX6_isPrefix 1 (some .boolean) 0 0 0 0 [.inl a0] h (fun rv h' => h = h' ∧ ∃ x : Int32, rv = some (.inl x) ∧ 0 ≤ x.toInt ∧ x.toInt ≤ 1 ∧ (x.toInt ≠ 0 → 0 ≤ a0.toInt ∧ a0.toInt ≤ 7) ∧ (x.toInt = 0 → a0.toInt < 0 ∨ 7 < a0.toInt)) := by
  refine tmc_of false rfl (by decide) (Nat.le_of_ble_eq_true rfl) ?_
  suffices HQ : ∀ Q0, Q0 = tRt cX6_isPrefix (some .boolean) (fun rv h' => h = h' ∧ ∃ x : Int32, rv = some (.inl x) ∧ 0 ≤ x.toInt ∧ x.toInt ≤ 1 ∧ (x.toInt ≠ 0 → 0 ≤ a0.toInt ∧ a0.toInt ≤ 7) ∧ (x.toInt = 0 → a0.toInt < 0 ∨ 7 < a0.toInt)) → TT l D mX6_isPrefix Q0 0 0 0 [(0, .inl a0)] [] h from HQ _ rfl
  intro Q0 hQ
  have ba0 := i_ty a0
  refine tt_iload_n (pc := 0) dX6_isPrefix_0 (.head _) ?_
  refine tw_if (tgt := 14) (pc := 1) dX6_isPrefix_1 (by decide) (fun (c7 : a0.toInt < 0) => ?_) (fun (c7 : ¬ (a0.toInt < 0)) => ?_)
  · skip
    refine tw_iconst (pc := 14) dX6_isPrefix_14 (by decide) (fun x8 ex8 => ?_)
    refine tt_stop ?_
    rw [hQ]
    exact Or.inr (Or.inl ⟨x8, dX6_isPrefix_15, rfl, Or.inr ⟨rfl, bool01 (by omega) (by omega)⟩, rfl, x8, rfl, by omega, by omega, (fun zz => ⟨by omega, by omega⟩), (fun zz => by omega)⟩)
  · skip
    refine tt_iload_n (pc := 4) dX6_isPrefix_4 (.head _) ?_
    refine tw_bipush (pc := 5) dX6_isPrefix_5 (by decide) (fun x9 ex9 => ?_)
    refine tw_icmp (tgt := 14) (pc := 7) dX6_isPrefix_7 (by decide) (fun (c10 : x9.toInt ≤ a0.toInt) => ?_) (fun (c10 : ¬ (x9.toInt ≤ a0.toInt)) => ?_)
    · skip
      refine tw_iconst (pc := 14) dX6_isPrefix_14 (by decide) (fun x11 ex11 => ?_)
      refine tt_stop ?_
      rw [hQ]
      exact Or.inr (Or.inl ⟨x11, dX6_isPrefix_15, rfl, Or.inr ⟨rfl, bool01 (by omega) (by omega)⟩, rfl, x11, rfl, by omega, by omega, (fun zz => ⟨by omega, by omega⟩), (fun zz => by omega)⟩)
    · skip
      refine tw_iconst (pc := 10) dX6_isPrefix_10 (by decide) (fun x12 ex12 => ?_)
      refine tt_goto (tgt := 15) (pc := 11) dX6_isPrefix_11 (by decide) ?_
      refine tt_stop ?_
      rw [hQ]
      exact Or.inr (Or.inl ⟨x12, dX6_isPrefix_15, rfl, Or.inr ⟨rfl, bool01 (by omega) (by omega)⟩, rfl, x12, rfl, by omega, by omega, (fun zz => ⟨by omega, by omega⟩), (fun zz => by omega)⟩)
abbrev mX6_isRouter : tM := (RX6, cX6_isRouter, 2, 0, 0, false)
set_option maxHeartbeats 4000000 in
theorem g_X6_isRouter {l : Launch} {D : va_G} {N : Nat} {pk : Int} {τ : List Nat} (hN2 : 2 ≤ N) (hN8 : N ≤ 8) (hp0 : 0 ≤ pk) (hp64 : pk ≤ 64) {h : List tC} (hw : WT N pk τ h) (a0 : Nat) (ta0 : τ[a0]? = some 6) (a1 : Int32) : TMc l D yX6_isRouter cX6_isRouter 2 (some .boolean) 0 0 0 0 [.inr (some a0), .inl a1] h (fun rv h' => h = h' ∧ ∃ x : Int32, rv = some (.inl x) ∧ 0 ≤ x.toInt ∧ x.toInt ≤ 1 ∧ (x.toInt ≠ 0 → 0 ≤ a1.toInt ∧ a1.toInt ≤ (N : Int) - 1) ∧ (x.toInt = 0 → a1.toInt < 0 ∨ (N : Int) - 1 < a1.toInt)) := by
  refine tmc_of false rfl (by decide) (Nat.le_of_ble_eq_true rfl) ?_
  suffices HQ : ∀ Q0, Q0 = tRt cX6_isRouter (some .boolean) (fun rv h' => h = h' ∧ ∃ x : Int32, rv = some (.inl x) ∧ 0 ≤ x.toInt ∧ x.toInt ≤ 1 ∧ (x.toInt ≠ 0 → 0 ≤ a1.toInt ∧ a1.toInt ≤ (N : Int) - 1) ∧ (x.toInt = 0 → a1.toInt < 0 ∨ (N : Int) - 1 < a1.toInt)) → TT l D mX6_isRouter Q0 0 0 0 [(0, .inr (some a0)), (1, .inl a1)] [] h from HQ _ rfl
  intro Q0 hQ
  have ba1 := i_ty a1
  refine tt_iload_n (pc := 0) dX6_isRouter_0 (.tail _ (.head _)) ?_
  refine tw_if (tgt := 17) (pc := 1) dX6_isRouter_1 (by decide) (fun (c9 : a1.toInt < 0) => ?_) (fun (c9 : ¬ (a1.toInt < 0)) => ?_)
  · skip
    refine tw_iconst (pc := 17) dX6_isRouter_17 (by decide) (fun x10 ex10 => ?_)
    refine tt_stop ?_
    rw [hQ]
    exact Or.inr (Or.inl ⟨x10, dX6_isRouter_18, rfl, Or.inr ⟨rfl, bool01 (by omega) (by omega)⟩, rfl, x10, rfl, by omega, by omega, (fun zz => ⟨by omega, by omega⟩), (fun zz => by omega)⟩)
  · skip
    refine tt_iload_n (pc := 4) dX6_isRouter_4 (.tail _ (.head _)) ?_
    refine tt_aload_n (pc := 5) dX6_isRouter_5 (.head _) ?_
    refine tw_getr (pc := 6) dX6_isRouter_6 flX6_50 hw ta0 (by decide) rfl (fun f11 q12 ef11 gf11 tq12 => ?_)
    refine tw_alen (pc := 9) dX6_isRouter_9 hw tq12 rfl (by decide) (by omega) (fun x13 ex13 => ?_)
    refine tw_icmp (tgt := 17) (pc := 10) dX6_isRouter_10 (by decide) (fun (c14 : x13.toInt ≤ a1.toInt) => ?_) (fun (c14 : ¬ (x13.toInt ≤ a1.toInt)) => ?_)
    · skip
      refine tw_iconst (pc := 17) dX6_isRouter_17 (by decide) (fun x15 ex15 => ?_)
      refine tt_stop ?_
      rw [hQ]
      exact Or.inr (Or.inl ⟨x15, dX6_isRouter_18, rfl, Or.inr ⟨rfl, bool01 (by omega) (by omega)⟩, rfl, x15, rfl, by omega, by omega, (fun zz => ⟨by omega, by omega⟩), (fun zz => by omega)⟩)
    · skip
      refine tw_iconst (pc := 13) dX6_isRouter_13 (by decide) (fun x16 ex16 => ?_)
      refine tt_goto (tgt := 18) (pc := 14) dX6_isRouter_14 (by decide) ?_
      refine tt_stop ?_
      rw [hQ]
      exact Or.inr (Or.inl ⟨x16, dX6_isRouter_18, rfl, Or.inr ⟨rfl, bool01 (by omega) (by omega)⟩, rfl, x16, rfl, by omega, by omega, (fun zz => ⟨by omega, by omega⟩), (fun zz => by omega)⟩)
abbrev mX1_shownKind : tM := (RX1, cX1_shownKind, 1, 0, 0, false)
set_option maxHeartbeats 4000000 in
theorem g_X1_shownKind {l : Launch} {D : va_G} {N : Nat} {pk : Int} {τ : List Nat} (hN2 : 2 ≤ N) (hN8 : N ≤ 8) (hp0 : 0 ≤ pk) (hp64 : pk ≤ 64) {h : List tC} (hw : WT N pk τ h) (a0 : Nat) (ta0 : τ[a0]? = some 1) : TMc l D yX1_shownKind cX1_shownKind 1 (some .int) 0 0 0 0 [.inr (some a0)] h (fun rv h' => h = h' ∧ ∃ x : Int32, rv = some (.inl x) ∧ 0 ≤ x.toInt ∧ x.toInt ≤ 12) := by
  refine tmc_of false rfl (by decide) (Nat.le_of_ble_eq_true rfl) ?_
  suffices HQ : ∀ Q0, Q0 = tRt cX1_shownKind (some .int) (fun rv h' => h = h' ∧ ∃ x : Int32, rv = some (.inl x) ∧ 0 ≤ x.toInt ∧ x.toInt ≤ 12) → TT l D mX1_shownKind Q0 0 0 0 [(0, .inr (some a0))] [] h from HQ _ rfl
  intro Q0 hQ
  refine tt_aload_n (pc := 0) dX1_shownKind_0 (.head _) ?_
  refine tw_geti (pc := 1) dX1_shownKind_1 flX1_40 hw ta0 (by decide) rfl (fun f10 x11 ef10 gf10 lx11 ux11 => ?_)
  refine tw_if (tgt := 17) (pc := 4) dX1_shownKind_4 (by decide) (fun (c12 : x11.toInt = 0) => ?_) (fun (c12 : ¬ (x11.toInt = 0)) => ?_)
  · skip
    refine tt_aload_n (pc := 17) dX1_shownKind_17 (.head _) ?_
    refine tw_geti (pc := 18) dX1_shownKind_18 flX1_9 hw ta0 (by decide) rfl (fun f13 x14 ef13 gf13 lx14 ux14 => ?_)
    refine tt_stop ?_
    rw [hQ]
    exact Or.inr (Or.inl ⟨x14, dX1_shownKind_21, rfl, Or.inl rfl, rfl, x14, rfl, by omega, by omega⟩)
  · skip
    refine tt_aload_n (pc := 7) dX1_shownKind_7 (.head _) ?_
    refine tw_geti (pc := 8) dX1_shownKind_8 flX1_9 hw ta0 (by decide) rfl (fun f15 x16 ef15 gf15 lx16 ux16 => ?_)
    refine tw_bipush (pc := 11) dX1_shownKind_11 (by decide) (fun x17 ex17 => ?_)
    refine tw_iadd (pc := 13) dX1_shownKind_13 (by omega) (fun x18 ex18 => ?_)
    refine tt_goto (tgt := 21) (pc := 14) dX1_shownKind_14 (by decide) ?_
    refine tt_stop ?_
    rw [hQ]
    exact Or.inr (Or.inl ⟨x18, dX1_shownKind_21, rfl, Or.inl rfl, rfl, x18, rfl, by omega, by omega⟩)
abbrev mX2_at : tM := (RX2, cX2_at, 2, 0, 0, false)
set_option maxHeartbeats 4000000 in
theorem g_X2_at {l : Launch} {D : va_G} {N : Nat} {pk : Int} {τ : List Nat} (hN2 : 2 ≤ N) (hN8 : N ≤ 8) (hp0 : 0 ≤ pk) (hp64 : pk ≤ 64) {h : List tC} (hw : WT N pk τ h) (a0 : Nat) (ta0 : τ[a0]? = some 2) (a1 : Int32) : TMc l D yX2_at cX2_at 2 (some (.object "LabelNet$Message")) 0 0 0 0 [.inr (some a0), .inl a1] h (fun rv h' => h = h' ∧ ∃ o : Option Nat, rv = some (.inr o) ∧ ∀ q, o = some q → τ[q]? = some 1) := by
  refine tmc_of false rfl (by decide) (Nat.le_of_ble_eq_true rfl) ?_
  suffices HQ : ∀ Q0, Q0 = tRt cX2_at (some (.object "LabelNet$Message")) (fun rv h' => h = h' ∧ ∃ o : Option Nat, rv = some (.inr o) ∧ ∀ q, o = some q → τ[q]? = some 1) → TT l D mX2_at Q0 0 0 0 [(0, .inr (some a0)), (1, .inl a1)] [] h from HQ _ rfl
  intro Q0 hQ
  have B12 : TT l D mX2_at Q0 0 0 12 [] [] h := by
    refine tt_null (pc := 12) dX2_at_12 ?_
    refine tt_goto (tgt := 30) (pc := 13) dX2_at_13 (by decide) ?_
    refine tt_stop ?_
    rw [hQ]
    exact Or.inr (Or.inr ⟨_, _, dX2_at_30, rfl, rfl, rfl, none, rfl, (fun q z => by cases z)⟩)
  have ba1 := i_ty a1
  refine tt_iload_n (pc := 0) dX2_at_0 (.tail _ (.head _)) ?_
  refine tw_if (tgt := 12) (pc := 1) dX2_at_1 (by decide) (fun (c14 : a1.toInt < 0) => ?_) (fun (c14 : ¬ (a1.toInt < 0)) => ?_)
  · skip
    refine tt_loc [] (fun _ z => absurd z List.not_mem_nil) ?_
    exact B12 
  · skip
    refine tt_iload_n (pc := 4) dX2_at_4 (.tail _ (.head _)) ?_
    refine tt_aload_n (pc := 5) dX2_at_5 (.head _) ?_
    refine tw_geti (pc := 6) dX2_at_6 flX2_21 hw ta0 (by decide) rfl (fun f15 x16 ef15 gf15 lx16 ux16 => ?_)
    refine tw_icmp (tgt := 16) (pc := 9) dX2_at_9 (by decide) (fun (c17 : a1.toInt < x16.toInt) => ?_) (fun (c17 : ¬ (a1.toInt < x16.toInt)) => ?_)
    · skip
      refine tt_aload_n (pc := 16) dX2_at_16 (.head _) ?_
      refine tw_getr (pc := 17) dX2_at_17 flX2_11 hw ta0 (by decide) rfl (fun f18 q19 ef18 gf18 tq19 => ?_)
      refine tt_aload_n (pc := 20) dX2_at_20 (.head _) ?_
      refine tw_geti (pc := 21) dX2_at_21 flX2_17 hw ta0 (by decide) rfl (fun f20 x21 ef20 gf20 lx21 ux21 => ?_)
      refine tt_iload_n (pc := 24) dX2_at_24 (.tail _ (.head _)) ?_
      refine tw_iadd (pc := 25) dX2_at_25 (by omega) (fun x22 ex22 => ?_)
      refine tw_bipush (pc := 26) dX2_at_26 (by decide) (fun x23 ex23 => ?_)
      refine tw_irem (c := 16) (pc := 28) dX2_at_28 (by omega) (by omega) (by decide) (fun x24 ex24 => ?_)
      refine tw_ald (pc := 29) dX2_at_29 hw tq19 rfl (by decide) (by omega) (by omega) (fun f25 q26 ef25 gf25 tq26 => ?_)
      refine tt_stop ?_
      rw [hQ]
      exact Or.inr (Or.inr ⟨_, _, dX2_at_30, rfl, rfl, rfl, (some q26), rfl, (fun q z => by cases z; exact tq26)⟩)
    · skip
      refine tt_loc [] (fun _ z => absurd z List.not_mem_nil) ?_
      exact B12 
abbrev mX2_nextFree : tM := (RX2, cX2_nextFree, 1, 0, 0, false)
set_option maxHeartbeats 4000000 in
theorem g_X2_nextFree {l : Launch} {D : va_G} {N : Nat} {pk : Int} {τ : List Nat} (hN2 : 2 ≤ N) (hN8 : N ≤ 8) (hp0 : 0 ≤ pk) (hp64 : pk ≤ 64) {h : List tC} (hw : WT N pk τ h) (a0 : Nat) (ta0 : τ[a0]? = some 2) : TMc l D yX2_nextFree cX2_nextFree 1 (some (.object "LabelNet$Message")) 0 0 0 0 [.inr (some a0)] h (fun rv h' => WT N pk τ h' ∧ Fr PX τ h h' ∧ ∃ o : Option Nat, rv = some (.inr o) ∧ ∀ q, o = some q → τ[q]? = some 1) := by
  refine tmc_of false rfl (by decide) (Nat.le_of_ble_eq_true rfl) ?_
  suffices HQ : ∀ Q0, Q0 = tRt cX2_nextFree (some (.object "LabelNet$Message")) (fun rv h' => WT N pk τ h' ∧ Fr PX τ h h' ∧ ∃ o : Option Nat, rv = some (.inr o) ∧ ∀ q, o = some q → τ[q]? = some 1) → TT l D mX2_nextFree Q0 0 0 0 [(0, .inr (some a0))] [] h from HQ _ rfl
  intro Q0 hQ
  have hf : Fr PX τ h h := Fr.rf
  refine tt_aload_n (pc := 0) dX2_nextFree_0 (.head _) ?_
  refine tw_geti (pc := 1) dX2_nextFree_1 flX2_21 hw ta0 (by decide) rfl (fun f20 x21 ef20 gf20 lx21 ux21 => ?_)
  refine tw_bipush (pc := 4) dX2_nextFree_4 (by decide) (fun x22 ex22 => ?_)
  refine tw_icmp (tgt := 11) (pc := 6) dX2_nextFree_6 (by decide) (fun (c23 : x21.toInt < x22.toInt) => ?_) (fun (c23 : ¬ (x21.toInt < x22.toInt)) => ?_)
  · skip
    refine tt_aload_n (pc := 11) dX2_nextFree_11 (.head _) ?_
    refine tt_dup (pc := 12) dX2_nextFree_12 ?_
    refine tt_get (pc := 13) dX2_nextFree_13 flX2_21 ef20 gf20 ?_
    refine tw_iconst (pc := 16) dX2_nextFree_16 (by decide) (fun x24 ex24 => ?_)
    refine tw_iadd (pc := 17) dX2_nextFree_17 (by omega) (fun x25 ex25 => ?_)
    refine tw_put (P := PX) (pc := 18) dX2_nextFree_18 flX2_21 hw ta0 (by decide) rfl ⟨by omega, by omega⟩ rfl (by decide) (by decide) (fun f26 h27 eh27 gh27 kh27 wh27 fh27 => ?_)
    have hfh27 := hf.tr fh27
    refine tt_aload_n (pc := 21) dX2_nextFree_21 (.head _) ?_
    refine tw_getr (pc := 22) dX2_nextFree_22 flX2_11 wh27 ta0 (by decide) rfl (fun f28 q29 ef28 gf28 tq29 => ?_)
    refine tt_aload_n (pc := 25) dX2_nextFree_25 (.head _) ?_
    refine tw_geti (pc := 26) dX2_nextFree_26 flX2_17 wh27 ta0 (by decide) rfl (fun f30 x31 ef30 gf30 lx31 ux31 => ?_)
    refine tt_aload_n (pc := 29) dX2_nextFree_29 (.head _) ?_
    refine tt_get (pc := 30) dX2_nextFree_30 flX2_21 gh27 (List.getElem?_set_self kh27) ?_
    refine tw_iadd (pc := 33) dX2_nextFree_33 (by omega) (fun x32 ex32 => ?_)
    refine tw_iconst (pc := 34) dX2_nextFree_34 (by decide) (fun x33 ex33 => ?_)
    refine tw_isub (pc := 35) dX2_nextFree_35 (by omega) (fun x34 ex34 => ?_)
    refine tw_bipush (pc := 36) dX2_nextFree_36 (by decide) (fun x35 ex35 => ?_)
    refine tw_irem (c := 16) (pc := 38) dX2_nextFree_38 (by omega) (by omega) (by decide) (fun x36 ex36 => ?_)
    refine tw_ald (pc := 39) dX2_nextFree_39 wh27 tq29 rfl (by decide) (by omega) (by omega) (fun f37 q38 ef37 gf37 tq38 => ?_)
    refine tt_stop ?_
    rw [hQ]
    exact Or.inr (Or.inr ⟨_, _, dX2_nextFree_40, rfl, rfl, wh27, hfh27, (some q38), rfl, (fun q z => by cases z; exact tq38)⟩)
  · skip
    refine tt_null (pc := 9) dX2_nextFree_9 ?_
    refine tt_stop ?_
    rw [hQ]
    exact Or.inr (Or.inr ⟨_, _, dX2_nextFree_10, rfl, rfl, hw, hf, none, rfl, (fun q z => by cases z)⟩)
abbrev mX2_dropFirst : tM := (RX2, cX2_dropFirst, 1, 0, 0, false)
set_option maxHeartbeats 4000000 in
theorem g_X2_dropFirst {l : Launch} {D : va_G} {N : Nat} {pk : Int} {τ : List Nat} (hN2 : 2 ≤ N) (hN8 : N ≤ 8) (hp0 : 0 ≤ pk) (hp64 : pk ≤ 64) {h : List tC} (hw : WT N pk τ h) (a0 : Nat) (ta0 : τ[a0]? = some 2) : TMc l D yX2_dropFirst cX2_dropFirst 1 none 0 0 0 0 [.inr (some a0)] h (fun rv h' => WT N pk τ h' ∧ Fr PX τ h h' ∧ rv = none) := by
  refine tmc_of false rfl (by decide) (Nat.le_of_ble_eq_true rfl) ?_
  suffices HQ : ∀ Q0, Q0 = tRt cX2_dropFirst none (fun rv h' => WT N pk τ h' ∧ Fr PX τ h h' ∧ rv = none) → TT l D mX2_dropFirst Q0 0 0 0 [(0, .inr (some a0))] [] h from HQ _ rfl
  intro Q0 hQ
  have hf : Fr PX τ h h := Fr.rf
  have B30 : ∀ (hb : List tC) (hwb : WT N pk τ hb) (hfb : Fr PX τ h hb), TT l D mX2_dropFirst Q0 0 0 30 [] [] hb := by
    intro hb hwb hfb
    refine tt_stop ?_
    rw [hQ]
    exact Or.inl ⟨dX2_dropFirst_30, rfl, rfl, hwb, hfb, rfl⟩
  refine tt_aload_n (pc := 0) dX2_dropFirst_0 (.head _) ?_
  refine tw_geti (pc := 1) dX2_dropFirst_1 flX2_21 hw ta0 (by decide) rfl (fun f18 x19 ef18 gf18 lx19 ux19 => ?_)
  refine tw_if (tgt := 30) (pc := 4) dX2_dropFirst_4 (by decide) (fun (c20 : x19.toInt ≤ 0) => ?_) (fun (c20 : ¬ (x19.toInt ≤ 0)) => ?_)
  · skip
    refine tt_loc [] (fun _ z => absurd z List.not_mem_nil) ?_
    exact B30 h hw hf
  · skip
    refine tt_aload_n (pc := 7) dX2_dropFirst_7 (.head _) ?_
    refine tt_aload_n (pc := 8) dX2_dropFirst_8 (.head _) ?_
    refine tw_geti (pc := 9) dX2_dropFirst_9 flX2_17 hw ta0 (by decide) rfl (fun f21 x22 ef21 gf21 lx22 ux22 => ?_)
    refine tw_iconst (pc := 12) dX2_dropFirst_12 (by decide) (fun x23 ex23 => ?_)
    refine tw_iadd (pc := 13) dX2_dropFirst_13 (by omega) (fun x24 ex24 => ?_)
    refine tw_bipush (pc := 14) dX2_dropFirst_14 (by decide) (fun x25 ex25 => ?_)
    refine tw_irem (c := 16) (pc := 16) dX2_dropFirst_16 (by omega) (by omega) (by decide) (fun x26 ex26 => ?_)
    refine tw_put (P := PX) (pc := 17) dX2_dropFirst_17 flX2_17 hw ta0 (by decide) rfl ⟨by omega, by omega⟩ rfl (by decide) (by decide) (fun f27 h28 eh28 gh28 kh28 wh28 fh28 => ?_)
    have hfh28 := hf.tr fh28
    have G29 : (f27.set 1 (.inl x26 : tV))[2]? = some (.inl x19 : tV) := by
        rw [List.getElem?_set_ne (by decide)]
        have z9 := ef18.symm.trans eh28
        cases z9
        exact gf18
    refine tt_aload_n (pc := 20) dX2_dropFirst_20 (.head _) ?_
    refine tt_dup (pc := 21) dX2_dropFirst_21 ?_
    refine tt_get (pc := 22) dX2_dropFirst_22 flX2_21 gh28 G29 ?_
    refine tw_iconst (pc := 25) dX2_dropFirst_25 (by decide) (fun x30 ex30 => ?_)
    refine tw_isub (pc := 26) dX2_dropFirst_26 (by omega) (fun x31 ex31 => ?_)
    refine tw_put (P := PX) (pc := 27) dX2_dropFirst_27 flX2_21 wh28 ta0 (by decide) rfl ⟨by omega, by omega⟩ rfl (by decide) (by decide) (fun f32 h33 eh33 gh33 kh33 wh33 fh33 => ?_)
    have hfh33 := hfh28.tr fh33
    have G34 : (f32.set 2 (.inl x31 : tV))[1]? = some (.inl x26 : tV) := by
        rw [List.getElem?_set_ne (by decide)]
        have z9 := gh28.symm.trans eh33
        cases z9
        exact (List.getElem?_set_self kh28)
    refine tt_loc [] (fun _ z => absurd z List.not_mem_nil) ?_
    exact B30 h33 wh33 hfh33
abbrev mX4_knowsUp : tM := (RX4, cX4_knowsUp, 3, 0, 0, false)
set_option maxHeartbeats 4000000 in
theorem g_X4_knowsUp {l : Launch} {D : va_G} {N : Nat} {pk : Int} {τ : List Nat} (hN2 : 2 ≤ N) (hN8 : N ≤ 8) (hp0 : 0 ≤ pk) (hp64 : pk ≤ 64) {h : List tC} (hw : WT N pk τ h) (a0 : Nat) (ta0 : τ[a0]? = some 4) (a1 : Int32) (la1 : 0 ≤ a1.toInt) (ua1 : a1.toInt ≤ 7) (a2 : Int32) : TMc l D yX4_knowsUp cX4_knowsUp 3 (some .boolean) 0 0 0 0 [.inr (some a0), .inl a1, .inl a2] h (fun rv h' => h = h' ∧ ∃ x : Int32, rv = some (.inl x) ∧ 0 ≤ x.toInt ∧ x.toInt ≤ 1) := by
  refine tmc_of false rfl (by decide) (Nat.le_of_ble_eq_true rfl) ?_
  suffices HQ : ∀ Q0, Q0 = tRt cX4_knowsUp (some .boolean) (fun rv h' => h = h' ∧ ∃ x : Int32, rv = some (.inl x) ∧ 0 ≤ x.toInt ∧ x.toInt ≤ 1) → TT l D mX4_knowsUp Q0 0 0 0 [(0, .inr (some a0)), (1, .inl a1), (2, .inl a2)] [] h from HQ _ rfl
  intro Q0 hQ
  have B30 : TT l D mX4_knowsUp Q0 0 0 30 [] [] h := by
    refine tw_iconst (pc := 30) dX4_knowsUp_30 (by decide) (fun x16 ex16 => ?_)
    refine tt_stop ?_
    rw [hQ]
    exact Or.inr (Or.inl ⟨x16, dX4_knowsUp_31, rfl, Or.inr ⟨rfl, bool01 (by omega) (by omega)⟩, rfl, x16, rfl, by omega, by omega⟩)
  have ba2 := i_ty a2
  refine tt_aload_n (pc := 0) dX4_knowsUp_0 (.head _) ?_
  refine tw_getr (pc := 1) dX4_knowsUp_1 flX4_11 hw ta0 (by decide) rfl (fun f17 q18 ef17 gf17 tq18 => ?_)
  refine tt_iload_n (pc := 4) dX4_knowsUp_4 (.tail _ (.head _)) ?_
  refine tw_aldn (pc := 5) dX4_knowsUp_5 hw tq18 rfl (by decide) (by omega) (by omega) (fun f19 o20 ef19 gf19 to20 => ?_)
  refine tt_ifnull (tgt := 30) (pc := 6) dX4_knowsUp_6 (by decide) (fun z21 => ?_) (fun q22 z21 => ?_)
  · subst z21
    refine tt_loc [] (fun _ z => absurd z List.not_mem_nil) ?_
    exact B30 
  · have tq22 := to20 q22 z21
    subst z21
    refine tt_aload_n (pc := 9) dX4_knowsUp_9 (.head _) ?_
    refine tt_get (pc := 10) dX4_knowsUp_10 flX4_11 ef17 gf17 ?_
    refine tt_iload_n (pc := 13) dX4_knowsUp_13 (.tail _ (.head _)) ?_
    refine tt_aald (pc := 14) dX4_knowsUp_14 ef19 (by decide) (i_nn (by omega)) gf19 ?_
    refine tw_geti (pc := 15) dX4_knowsUp_15 flX4_55 hw tq22 (by decide) rfl (fun f23 x24 ef23 gf23 lx24 ux24 => ?_)
    refine tt_iload_n (pc := 18) dX4_knowsUp_18 (.tail _ (.tail _ (.head _))) ?_
    refine tt_ishr (pc := 19) dX4_knowsUp_19 ?_
    refine tw_any (fun x25 => ?_)
    have bx25 := i_ty x25
    refine tw_iconst (pc := 20) dX4_knowsUp_20 (by decide) (fun x26 ex26 => ?_)
    refine tt_iand (pc := 21) dX4_knowsUp_21 ?_
    refine tw_any (fun x27 => ?_)
    have bx27 := i_ty x27
    refine tw_iconst (pc := 22) dX4_knowsUp_22 (by decide) (fun x28 ex28 => ?_)
    refine tw_icmp (tgt := 30) (pc := 23) dX4_knowsUp_23 (by decide) (fun (c29 : x27.toInt ≠ x28.toInt) => ?_) (fun (c29 : ¬ (x27.toInt ≠ x28.toInt)) => ?_)
    · skip
      refine tt_loc [] (fun _ z => absurd z List.not_mem_nil) ?_
      exact B30 
    · skip
      refine tw_iconst (pc := 26) dX4_knowsUp_26 (by decide) (fun x30 ex30 => ?_)
      refine tt_goto (tgt := 31) (pc := 27) dX4_knowsUp_27 (by decide) ?_
      refine tt_stop ?_
      rw [hQ]
      exact Or.inr (Or.inl ⟨x30, dX4_knowsUp_31, rfl, Or.inr ⟨rfl, bool01 (by omega) (by omega)⟩, rfl, x30, rfl, by omega, by omega⟩)
abbrev mX4_isOwnLabel : tM := (RX4, cX4_isOwnLabel, 1, 0, 0, false)
set_option maxHeartbeats 4000000 in
theorem g_X4_isOwnLabel {l : Launch} {D : va_G} {N : Nat} {pk : Int} {τ : List Nat} (hN2 : 2 ≤ N) (hN8 : N ≤ 8) (hp0 : 0 ≤ pk) (hp64 : pk ≤ 64) {h : List tC} (hw : WT N pk τ h) (a0 : Int32) : TMc l D yX4_isOwnLabel cX4_isOwnLabel 1 (some .boolean) 0 0 0 0 [.inl a0] h (fun rv h' => h = h' ∧ ∃ x : Int32, rv = some (.inl x) ∧ 0 ≤ x.toInt ∧ x.toInt ≤ 1 ∧ (x.toInt ≠ 0 → 16 ≤ a0.toInt ∧ a0.toInt ≤ 79)) := by
  refine tmc_of false rfl (by decide) (Nat.le_of_ble_eq_true rfl) ?_
  suffices HQ : ∀ Q0, Q0 = tRt cX4_isOwnLabel (some .boolean) (fun rv h' => h = h' ∧ ∃ x : Int32, rv = some (.inl x) ∧ 0 ≤ x.toInt ∧ x.toInt ≤ 1 ∧ (x.toInt ≠ 0 → 16 ≤ a0.toInt ∧ a0.toInt ≤ 79)) → TT l D mX4_isOwnLabel Q0 0 0 0 [(0, .inl a0)] [] h from HQ _ rfl
  intro Q0 hQ
  have B16 : TT l D mX4_isOwnLabel Q0 0 0 16 [] [] h := by
    refine tw_iconst (pc := 16) dX4_isOwnLabel_16 (by decide) (fun x7 ex7 => ?_)
    refine tt_stop ?_
    rw [hQ]
    exact Or.inr (Or.inl ⟨x7, dX4_isOwnLabel_17, rfl, Or.inr ⟨rfl, bool01 (by omega) (by omega)⟩, rfl, x7, rfl, by omega, by omega, (fun zz => ⟨by omega, by omega⟩)⟩)
  have ba0 := i_ty a0
  refine tt_iload_n (pc := 0) dX4_isOwnLabel_0 (.head _) ?_
  refine tw_bipush (pc := 1) dX4_isOwnLabel_1 (by decide) (fun x8 ex8 => ?_)
  refine tw_icmp (tgt := 16) (pc := 3) dX4_isOwnLabel_3 (by decide) (fun (c9 : a0.toInt < x8.toInt) => ?_) (fun (c9 : ¬ (a0.toInt < x8.toInt)) => ?_)
  · skip
    refine tt_loc [] (fun _ z => absurd z List.not_mem_nil) ?_
    exact B16 
  · skip
    refine tt_iload_n (pc := 6) dX4_isOwnLabel_6 (.head _) ?_
    refine tw_bipush (pc := 7) dX4_isOwnLabel_7 (by decide) (fun x10 ex10 => ?_)
    refine tw_icmp (tgt := 16) (pc := 9) dX4_isOwnLabel_9 (by decide) (fun (c11 : x10.toInt ≤ a0.toInt) => ?_) (fun (c11 : ¬ (x10.toInt ≤ a0.toInt)) => ?_)
    · skip
      refine tt_loc [] (fun _ z => absurd z List.not_mem_nil) ?_
      exact B16 
    · skip
      refine tw_iconst (pc := 12) dX4_isOwnLabel_12 (by decide) (fun x12 ex12 => ?_)
      refine tt_goto (tgt := 17) (pc := 13) dX4_isOwnLabel_13 (by decide) ?_
      refine tt_stop ?_
      rw [hQ]
      exact Or.inr (Or.inl ⟨x12, dX4_isOwnLabel_17, rfl, Or.inr ⟨rfl, bool01 (by omega) (by omega)⟩, rfl, x12, rfl, by omega, by omega, (fun zz => ⟨by omega, by omega⟩)⟩)
abbrev mX4_forgetMapping : tM := (RX4, cX4_forgetMapping, 3, 0, 0, false)
set_option maxHeartbeats 4000000 in
theorem g_X4_forgetMapping {l : Launch} {D : va_G} {N : Nat} {pk : Int} {τ : List Nat} (hN2 : 2 ≤ N) (hN8 : N ≤ 8) (hp0 : 0 ≤ pk) (hp64 : pk ≤ 64) {h : List tC} (hw : WT N pk τ h) (a0 : Nat) (ta0 : τ[a0]? = some 4) (a1 : Int32) (la1 : 0 ≤ a1.toInt) (ua1 : a1.toInt ≤ 7) (a2 : Int32) (la2 : 0 ≤ a2.toInt) (ua2 : a2.toInt ≤ 11) : TMc l D yX4_forgetMapping cX4_forgetMapping 3 none 0 0 0 0 [.inr (some a0), .inl a1, .inl a2] h (fun rv h' => WT N pk τ h' ∧ Fr PX τ h h' ∧ rv = none) := by
  refine tmc_of false rfl (by decide) (Nat.le_of_ble_eq_true rfl) ?_
  suffices HQ : ∀ Q0, Q0 = tRt cX4_forgetMapping none (fun rv h' => WT N pk τ h' ∧ Fr PX τ h h' ∧ rv = none) → TT l D mX4_forgetMapping Q0 0 0 0 [(0, .inr (some a0)), (1, .inl a1), (2, .inl a2)] [] h from HQ _ rfl
  intro Q0 hQ
  have hf : Fr PX τ h h := Fr.rf
  refine tt_aload_n (pc := 0) dX4_forgetMapping_0 (.head _) ?_
  refine tw_getr (pc := 1) dX4_forgetMapping_1 flX4_22 hw ta0 (by decide) rfl (fun f15 q16 ef15 gf15 tq16 => ?_)
  refine tt_iload_n (pc := 4) dX4_forgetMapping_4 (.tail _ (.head _)) ?_
  refine tw_ald (pc := 5) dX4_forgetMapping_5 hw tq16 rfl (by decide) (by omega) (by omega) (fun f17 q18 ef17 gf17 tq18 => ?_)
  refine tt_iload_n (pc := 6) dX4_forgetMapping_6 (.tail _ (.tail _ (.head _))) ?_
  refine tw_iconst (pc := 7) dX4_forgetMapping_7 (by decide) (fun x19 ex19 => ?_)
  refine tw_ist (P := PX) (pc := 8) dX4_forgetMapping_8 hw tq18 rfl (by omega) (by omega) (by omega) (by omega) (by decide) (fun f20 h21 eh21 gh21 kh21 wh21 fh21 => ?_)
  have hfh21 := hf.tr fh21
  refine tt_aload_n (pc := 9) dX4_forgetMapping_9 (.head _) ?_
  refine tw_getr (pc := 10) dX4_forgetMapping_10 flX4_25 wh21 ta0 (by decide) rfl (fun f22 q23 ef22 gf22 tq23 => ?_)
  refine tt_iload_n (pc := 13) dX4_forgetMapping_13 (.tail _ (.head _)) ?_
  refine tw_ald (pc := 14) dX4_forgetMapping_14 wh21 tq23 rfl (by decide) (by omega) (by omega) (fun f24 q25 ef24 gf24 tq25 => ?_)
  refine tt_iload_n (pc := 15) dX4_forgetMapping_15 (.tail _ (.tail _ (.head _))) ?_
  refine tw_iconst (pc := 16) dX4_forgetMapping_16 (by decide) (fun x26 ex26 => ?_)
  refine tw_ist (P := PX) (pc := 17) dX4_forgetMapping_17 wh21 tq25 rfl (by omega) (by omega) (by omega) (by omega) (by decide) (fun f27 h28 eh28 gh28 kh28 wh28 fh28 => ?_)
  have hfh28 := hfh21.tr fh28
  refine tt_stop ?_
  rw [hQ]
  exact Or.inl ⟨dX4_forgetMapping_18, rfl, rfl, wh28, hfh28, rfl⟩
abbrev mX4_freeIfReleased : tM := (RX4, cX4_freeIfReleased, 2, 1, 20, false)
set_option maxHeartbeats 4000000 in
theorem g_X4_freeIfReleased {l : Launch} {D : va_G} {N : Nat} {pk : Int} {τ : List Nat} (hN2 : 2 ≤ N) (hN8 : N ≤ 8) (hp0 : 0 ≤ pk) (hp64 : pk ≤ 64) {h : List tC} (hw : WT N pk τ h) (a0 : Nat) (ta0 : τ[a0]? = some 4) (a1 : Int32) : TMc l D yX4_freeIfReleased cX4_freeIfReleased 2 none 1 20 0 0 [.inr (some a0), .inl a1] h (fun rv h' => WT N pk τ h' ∧ Fr PX τ h h' ∧ rv = none) := by
  refine tmc_of false rfl (by decide) (Nat.le_of_ble_eq_true rfl) ?_
  suffices HQ : ∀ Q0, Q0 = tRt cX4_freeIfReleased none (fun rv h' => WT N pk τ h' ∧ Fr PX τ h h' ∧ rv = none) → TT l D mX4_freeIfReleased Q0 0 0 0 [(0, .inr (some a0)), (1, .inl a1)] [] h from HQ _ rfl
  intro Q0 hQ
  have hf : Fr PX τ h h := Fr.rf
  have B48 : ∀ (hb : List tC) (hwb : WT N pk τ hb) (hfb : Fr PX τ h hb), TT l D mX4_freeIfReleased Q0 0 0 48 [] [] hb := by
    intro hb hwb hfb
    refine tt_stop ?_
    rw [hQ]
    exact Or.inl ⟨dX4_freeIfReleased_48, rfl, rfl, hwb, hfb, rfl⟩
  have ba1 := i_ty a1
  refine tt_iload_n (pc := 0) dX4_freeIfReleased_0 (.tail _ (.head _)) ?_
  refine tt_callS (kc := 0) (ks := 0) (mc := 0) (ms := 0) (as := [.inl a1]) (st := []) (pc := 1) dX4_freeIfReleased_1 lkX4_79 smX4_isOwnLabel rfl (by decide) (by decide) (Nat.le_of_ble_eq_true rfl) (g_X4_isOwnLabel hN2 hN8 hp0 hp64 hw a1) (fun rv h25 qh25 => ?_)
  obtain ⟨rfl, x26, rfl, lx26, ux26, Gx26⟩ := qh25
  show TT _ _ _ _ _ _ _ _ [.inl x26] _
  refine tw_if (tgt := 48) (pc := 4) dX4_freeIfReleased_4 (by decide) (fun (c29 : x26.toInt = 0) => ?_) (fun (c29 : ¬ (x26.toInt = 0)) => ?_)
  · skip
    refine tt_loc [] (fun _ z => absurd z List.not_mem_nil) ?_
    exact B48 h hw hf
  · obtain ⟨b27, b28⟩ := Gx26 (by omega)
    refine tt_aload_n (pc := 7) dX4_freeIfReleased_7 (.head _) ?_
    refine tw_getr (pc := 8) dX4_freeIfReleased_8 flX4_35 hw ta0 (by decide) rfl (fun f30 q31 ef30 gf30 tq31 => ?_)
    refine tt_iload_n (pc := 11) dX4_freeIfReleased_11 (.tail _ (.head _)) ?_
    refine tw_ild (pc := 12) dX4_freeIfReleased_12 hw tq31 rfl (by omega) (by omega) (fun f33 x32 ef33 gf33 lx32 ux32 => ?_)
    refine tw_iconst (pc := 13) dX4_freeIfReleased_13 (by decide) (fun x34 ex34 => ?_)
    refine tw_icmp (tgt := 48) (pc := 14) dX4_freeIfReleased_14 (by decide) (fun (c35 : x32.toInt = x34.toInt) => ?_) (fun (c35 : ¬ (x32.toInt = x34.toInt)) => ?_)
    · skip
      refine tt_loc [] (fun _ z => absurd z List.not_mem_nil) ?_
      exact B48 h hw hf
    · skip
      refine tt_aload_n (pc := 17) dX4_freeIfReleased_17 (.head _) ?_
      refine tw_getr (pc := 18) dX4_freeIfReleased_18 flX4_38 hw ta0 (by decide) rfl (fun f36 q37 ef36 gf36 tq37 => ?_)
      refine tt_iload_n (pc := 21) dX4_freeIfReleased_21 (.tail _ (.head _)) ?_
      refine tw_ild (pc := 22) dX4_freeIfReleased_22 hw tq37 rfl (by omega) (by omega) (fun f39 x38 ef39 gf39 lx38 ux38 => ?_)
      refine tw_if (tgt := 48) (pc := 23) dX4_freeIfReleased_23 (by decide) (fun (c40 : x38.toInt ≠ 0) => ?_) (fun (c40 : ¬ (x38.toInt ≠ 0)) => ?_)
      · skip
        refine tt_loc [] (fun _ z => absurd z List.not_mem_nil) ?_
        exact B48 h hw hf
      · skip
        refine tt_aload_n (pc := 26) dX4_freeIfReleased_26 (.head _) ?_
        refine tw_getr (pc := 27) dX4_freeIfReleased_27 flX4_28 hw ta0 (by decide) rfl (fun f41 q42 ef41 gf41 tq42 => ?_)
        refine tt_aload_n (pc := 30) dX4_freeIfReleased_30 (.head _) ?_
        refine tt_get (pc := 31) dX4_freeIfReleased_31 flX4_35 ef30 gf30 ?_
        refine tt_iload_n (pc := 34) dX4_freeIfReleased_34 (.tail _ (.head _)) ?_
        refine tt_iald (pc := 35) dX4_freeIfReleased_35 ef33 (i_nn (by omega)) gf33 ?_
        refine tw_ild (pc := 36) dX4_freeIfReleased_36 hw tq42 rfl (by omega) (by omega) (fun f44 x43 ef44 gf44 lx43 ux43 => ?_)
        refine tt_iload_n (pc := 37) dX4_freeIfReleased_37 (.tail _ (.head _)) ?_
        refine tw_icmp (tgt := 48) (pc := 38) dX4_freeIfReleased_38 (by decide) (fun (c45 : x43.toInt = a1.toInt) => ?_) (fun (c45 : ¬ (x43.toInt = a1.toInt)) => ?_)
        · skip
          refine tt_loc [] (fun _ z => absurd z List.not_mem_nil) ?_
          exact B48 h hw hf
        · skip
          refine tt_aload_n (pc := 41) dX4_freeIfReleased_41 (.head _) ?_
          refine tt_get (pc := 42) dX4_freeIfReleased_42 flX4_35 ef30 gf30 ?_
          refine tt_iload_n (pc := 45) dX4_freeIfReleased_45 (.tail _ (.head _)) ?_
          refine tw_iconst (pc := 46) dX4_freeIfReleased_46 (by decide) (fun x46 ex46 => ?_)
          refine tw_ist (P := PX) (pc := 47) dX4_freeIfReleased_47 hw tq31 rfl (by omega) (by omega) (by omega) (by omega) (by decide) (fun f47 h48 eh48 gh48 kh48 wh48 fh48 => ?_)
          have hfh48 := hf.tr fh48
          refine tt_loc [] (fun _ z => absurd z List.not_mem_nil) ?_
          exact B48 h48 wh48 hfh48
abbrev mX4_bind : tM := (RX4, cX4_bind, 4, 1, 20, false)
set_option maxHeartbeats 4000000 in
theorem g_X4_bind {l : Launch} {D : va_G} {N : Nat} {pk : Int} {τ : List Nat} (hN2 : 2 ≤ N) (hN8 : N ≤ 8) (hp0 : 0 ≤ pk) (hp64 : pk ≤ 64) {h : List tC} (hw : WT N pk τ h) (a0 : Nat) (ta0 : τ[a0]? = some 4) (a1 : Int32) (la1 : 0 ≤ a1.toInt) (ua1 : a1.toInt ≤ 7) (a2 : Int32) (a3 : Int32) : TMc l D yX4_bind cX4_bind 4 none 1 20 0 0 [.inr (some a0), .inl a1, .inl a2, .inl a3] h (fun rv h' => WT N pk τ h' ∧ Fr PX τ h h' ∧ rv = none) := by
  refine tmc_of false rfl (by decide) (Nat.le_of_ble_eq_true rfl) ?_
  suffices HQ : ∀ Q0, Q0 = tRt cX4_bind none (fun rv h' => WT N pk τ h' ∧ Fr PX τ h h' ∧ rv = none) → TT l D mX4_bind Q0 0 0 0 [(0, .inr (some a0)), (1, .inl a1), (2, .inl a2), (3, .inl a3)] [] h from HQ _ rfl
  intro Q0 hQ
  have hf : Fr PX τ h h := Fr.rf
  have B28 : ∀ (hb : List tC) (hwb : WT N pk τ hb) (hfb : Fr PX τ h hb), TT l D mX4_bind Q0 0 0 28 [] [] hb := by
    intro hb hwb hfb
    refine tt_stop ?_
    rw [hQ]
    exact Or.inl ⟨dX4_bind_28, rfl, rfl, hwb, hfb, rfl⟩
  have ba2 := i_ty a2
  have ba3 := i_ty a3
  refine tt_aload_n (pc := 0) dX4_bind_0 (.head _) ?_
  refine tw_getr (pc := 1) dX4_bind_1 flX4_28 hw ta0 (by decide) rfl (fun f18 q19 ef18 gf18 tq19 => ?_)
  refine tt_iload_n (pc := 4) dX4_bind_4 (.tail _ (.head _)) ?_
  refine tt_iload_n (pc := 5) dX4_bind_5 (.tail _ (.tail _ (.head _))) ?_
  refine tw_ist (P := PX) (pc := 6) dX4_bind_6 hw tq19 rfl (by omega) (by omega) (by omega) (by omega) (by decide) (fun f20 h21 eh21 gh21 kh21 wh21 fh21 => ?_)
  have hfh21 := hf.tr fh21
  refine tt_aload_n (pc := 7) dX4_bind_7 (.head _) ?_
  refine tw_getr (pc := 8) dX4_bind_8 flX4_32 wh21 ta0 (by decide) rfl (fun f22 q23 ef22 gf22 tq23 => ?_)
  refine tt_iload_n (pc := 11) dX4_bind_11 (.tail _ (.head _)) ?_
  refine tt_iload_n (pc := 12) dX4_bind_12 (.tail _ (.tail _ (.tail _ (.head _)))) ?_
  refine tw_ist (P := PX) (pc := 13) dX4_bind_13 wh21 tq23 rfl (by omega) (by omega) (by omega) (by omega) (by decide) (fun f24 h25 eh25 gh25 kh25 wh25 fh25 => ?_)
  have hfh25 := hfh21.tr fh25
  refine tt_iload_n (pc := 14) dX4_bind_14 (.tail _ (.tail _ (.head _))) ?_
  refine tt_callS (kc := 0) (ks := 0) (mc := 0) (ms := 0) (as := [.inl a2]) (st := []) (pc := 15) dX4_bind_15 lkX4_79 smX4_isOwnLabel rfl (by decide) (by decide) (Nat.le_of_ble_eq_true rfl) (g_X4_isOwnLabel hN2 hN8 hp0 hp64 wh25 a2) (fun rv h26 qh26 => ?_)
  obtain ⟨rfl, x27, rfl, lx27, ux27, Gx27⟩ := qh26
  show TT _ _ _ _ _ _ _ _ [.inl x27] _
  refine tw_if (tgt := 28) (pc := 18) dX4_bind_18 (by decide) (fun (c30 : x27.toInt = 0) => ?_) (fun (c30 : ¬ (x27.toInt = 0)) => ?_)
  · skip
    refine tt_loc [] (fun _ z => absurd z List.not_mem_nil) ?_
    exact B28 h25 wh25 hfh25
  · obtain ⟨b28, b29⟩ := Gx27 (by omega)
    refine tt_aload_n (pc := 21) dX4_bind_21 (.head _) ?_
    refine tw_getr (pc := 22) dX4_bind_22 flX4_35 wh25 ta0 (by decide) rfl (fun f31 q32 ef31 gf31 tq32 => ?_)
    refine tt_iload_n (pc := 25) dX4_bind_25 (.tail _ (.tail _ (.head _))) ?_
    refine tt_iload_n (pc := 26) dX4_bind_26 (.tail _ (.head _)) ?_
    refine tw_ist (P := PX) (pc := 27) dX4_bind_27 wh25 tq32 rfl (by omega) (by omega) (by omega) (by omega) (by decide) (fun f33 h34 eh34 gh34 kh34 wh34 fh34 => ?_)
    have hfh34 := hfh25.tr fh34
    refine tt_loc [] (fun _ z => absurd z List.not_mem_nil) ?_
    exact B28 h34 wh34 hfh34
abbrev mX4_releaseCounts : tM := (RX4, cX4_releaseCounts, 4, 2, 41, false)
set_option maxHeartbeats 4000000 in
theorem g_X4_releaseCounts {l : Launch} {D : va_G} {N : Nat} {pk : Int} {τ : List Nat} (hN2 : 2 ≤ N) (hN8 : N ≤ 8) (hp0 : 0 ≤ pk) (hp64 : pk ≤ 64) {h : List tC} (hw : WT N pk τ h) (a0 : Nat) (ta0 : τ[a0]? = some 4) (a1 : Int32) (a2 : Int32) (a3 : Int32) : TMc l D yX4_releaseCounts cX4_releaseCounts 4 (some .boolean) 2 41 0 0 [.inr (some a0), .inl a1, .inl a2, .inl a3] h (fun rv h' => WT N pk τ h' ∧ Fr PX τ h h' ∧ ∃ x : Int32, rv = some (.inl x) ∧ 0 ≤ x.toInt ∧ x.toInt ≤ 1) := by
  refine tmc_of false rfl (by decide) (Nat.le_of_ble_eq_true rfl) ?_
  suffices HQ : ∀ Q0, Q0 = tRt cX4_releaseCounts (some .boolean) (fun rv h' => WT N pk τ h' ∧ Fr PX τ h h' ∧ ∃ x : Int32, rv = some (.inl x) ∧ 0 ≤ x.toInt ∧ x.toInt ≤ 1) → TT l D mX4_releaseCounts Q0 0 0 0 [(0, .inr (some a0)), (1, .inl a1), (2, .inl a2), (3, .inl a3)] [] h from HQ _ rfl
  intro Q0 hQ
  have hf : Fr PX τ h h := Fr.rf
  have B17 : ∀ (hb : List tC) (hwb : WT N pk τ hb) (hfb : Fr PX τ h hb), TT l D mX4_releaseCounts Q0 0 0 17 [] [] hb := by
    intro hb hwb hfb
    refine tw_iconst (pc := 17) dX4_releaseCounts_17 (by decide) (fun x25 ex25 => ?_)
    refine tt_stop ?_
    rw [hQ]
    exact Or.inr (Or.inl ⟨x25, dX4_releaseCounts_18, rfl, Or.inr ⟨rfl, bool01 (by omega) (by omega)⟩, hwb, hfb, x25, rfl, by omega, by omega⟩)
  have ba1 := i_ty a1
  have ba2 := i_ty a2
  have ba3 := i_ty a3
  refine tt_iload_n (pc := 0) dX4_releaseCounts_0 (.tail _ (.tail _ (.head _))) ?_
  refine tt_callS (kc := 0) (ks := 0) (mc := 0) (ms := 0) (as := [.inl a2]) (st := []) (pc := 1) dX4_releaseCounts_1 lkX4_79 smX4_isOwnLabel rfl (by decide) (by decide) (Nat.le_of_ble_eq_true rfl) (g_X4_isOwnLabel hN2 hN8 hp0 hp64 hw a2) (fun rv h26 qh26 => ?_)
  obtain ⟨rfl, x27, rfl, lx27, ux27, Gx27⟩ := qh26
  show TT _ _ _ _ _ _ _ _ [.inl x27] _
  refine tw_if (tgt := 17) (pc := 4) dX4_releaseCounts_4 (by decide) (fun (c30 : x27.toInt = 0) => ?_) (fun (c30 : ¬ (x27.toInt = 0)) => ?_)
  · skip
    refine tt_loc [] (fun _ z => absurd z List.not_mem_nil) ?_
    exact B17 h hw hf
  · obtain ⟨b28, b29⟩ := Gx27 (by omega)
    refine tt_aload_n (pc := 7) dX4_releaseCounts_7 (.head _) ?_
    refine tw_getr (pc := 8) dX4_releaseCounts_8 flX4_35 hw ta0 (by decide) rfl (fun f31 q32 ef31 gf31 tq32 => ?_)
    refine tt_iload_n (pc := 11) dX4_releaseCounts_11 (.tail _ (.tail _ (.head _))) ?_
    refine tw_ild (pc := 12) dX4_releaseCounts_12 hw tq32 rfl (by omega) (by omega) (fun f34 x33 ef34 gf34 lx33 ux33 => ?_)
    refine tt_iload_n (pc := 13) dX4_releaseCounts_13 (.tail _ (.head _)) ?_
    refine tw_icmp (tgt := 19) (pc := 14) dX4_releaseCounts_14 (by decide) (fun (c35 : x33.toInt = a1.toInt) => ?_) (fun (c35 : ¬ (x33.toInt = a1.toInt)) => ?_)
    · skip
      refine tt_aload_n (pc := 19) dX4_releaseCounts_19 (.head _) ?_
      refine tw_getr (pc := 20) dX4_releaseCounts_20 flX4_38 hw ta0 (by decide) rfl (fun f36 q37 ef36 gf36 tq37 => ?_)
      refine tt_iload_n (pc := 23) dX4_releaseCounts_23 (.tail _ (.tail _ (.head _))) ?_
      refine tt_dup2 (pc := 24) dX4_releaseCounts_24 ?_
      refine tw_ild (pc := 25) dX4_releaseCounts_25 hw tq37 rfl (by omega) (by omega) (fun f39 x38 ef39 gf39 lx38 ux38 => ?_)
      refine tw_iconst (pc := 26) dX4_releaseCounts_26 (by decide) (fun x40 ex40 => ?_)
      refine tt_iload_n (pc := 27) dX4_releaseCounts_27 (.tail _ (.tail _ (.tail _ (.head _)))) ?_
      refine tt_ishl (pc := 28) dX4_releaseCounts_28 ?_
      refine tw_any (fun x41 => ?_)
      have bx41 := i_ty x41
      refine tw_iconst (pc := 29) dX4_releaseCounts_29 (by decide) (fun x42 ex42 => ?_)
      refine tt_ixor (pc := 30) dX4_releaseCounts_30 ?_
      refine tw_any (fun x43 => ?_)
      have bx43 := i_ty x43
      refine tt_iand (pc := 31) dX4_releaseCounts_31 ?_
      refine tw_any (fun x44 => ?_)
      have bx44 := i_ty x44
      refine tw_ist (P := PX) (pc := 32) dX4_releaseCounts_32 hw tq37 rfl (by omega) (by omega) (by omega) (by omega) (by decide) (fun f45 h46 eh46 gh46 kh46 wh46 fh46 => ?_)
      have hfh46 := hf.tr fh46
      refine tt_aload_n (pc := 33) dX4_releaseCounts_33 (.head _) ?_
      refine tt_iload_n (pc := 34) dX4_releaseCounts_34 (.tail _ (.tail _ (.head _))) ?_
      refine tw_callV (kc := 0) (ks := 0) (mc := 0) (ms := 0) (as := [.inl a2]) (st := []) (pc := 35) wh46 ta0 (by decide) dX4_releaseCounts_35 lkX4_71 imX4_freeIfReleased seX4_freeIfReleased rfl rfl (by decide) (by decide) (Nat.le_of_ble_eq_true rfl) (g_X4_freeIfReleased hN2 hN8 hp0 hp64 wh46 a0 ta0 a2) (fun rv h47 qh47 => ?_)
      obtain ⟨wh47, fh47, rfl⟩ := qh47
      have hfh47 := hfh46.tr fh47
      show TT _ _ _ _ _ _ _ _ [] _
      refine tw_iconst (pc := 38) dX4_releaseCounts_38 (by decide) (fun x48 ex48 => ?_)
      refine tt_stop ?_
      rw [hQ]
      exact Or.inr (Or.inl ⟨x48, dX4_releaseCounts_39, rfl, Or.inr ⟨rfl, bool01 (by omega) (by omega)⟩, wh47, hfh47, x48, rfl, by omega, by omega⟩)
    · skip
      refine tt_loc [] (fun _ z => absurd z List.not_mem_nil) ?_
      exact B17 h hw hf
