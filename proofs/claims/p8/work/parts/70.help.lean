set_option maxHeartbeats 1000000 in
theorem g_X6_lay {l : Launch} {D : va_G} {N : Nat} {pk : Int} {τ : List Nat} (hl0 : l.stackTraces = false) (hN2 : 2 ≤ N) (hN8 : N ≤ 8) (hp0 : 0 ≤ pk) (hp64 : pk ≤ 64) {h : List tC} (hw : WT N pk τ h) (a0 : Nat) (ta0 : τ[a0]? = some 6) (a1 : Int32) (a2 : Int32) (a3 : Int32) (a4 : Int32) : TXc l D yX6_lay cX6_lay 6 none 6 82 1 6 [.inr (some a0), .inl a1, .inl a2, .inl a3, .inl a4] h (fun rv h' => WT N pk τ h' ∧ LAID h h' a0 a1.toNatClampNeg ∧ (0 ≤ a1.toInt ∧ a1.toInt ≤ 11 ∧ 0 ≤ a2.toInt ∧ a2.toInt ≤ (N : Int) - 1 ∧ 0 ≤ a3.toInt ∧ a3.toInt ≤ (N : Int) - 1) ∧ a2.toInt ≠ a3.toInt ∧ 1 ≤ a4.toInt ∧ a4.toInt ≤ 60 ∧ rv = none) (fun E => (E = cIO ∧ ¬ (0 ≤ a1.toInt ∧ a1.toInt ≤ 11 ∧ 0 ≤ a2.toInt ∧ a2.toInt ≤ (N : Int) - 1 ∧ 0 ≤ a3.toInt ∧ a3.toInt ≤ (N : Int) - 1)) ∨ (E = cIA ∧ (0 ≤ a1.toInt ∧ a1.toInt ≤ 11 ∧ 0 ≤ a2.toInt ∧ a2.toInt ≤ (N : Int) - 1 ∧ 0 ≤ a3.toInt ∧ a3.toInt ≤ (N : Int) - 1) ∧ (a2.toInt = a3.toInt ∨ a4.toInt < 1 ∨ 60 < a4.toInt ∨ ∃ x : Int32, XL h a0 a1.toNatClampNeg x ∧ x.toInt ≠ 0))) := by
  refine txc_of (F0' := 1) (L0' := 21) (mc0 := 0) (ms0 := 0) hl0 rfl rfl (Nat.le_of_ble_eq_true rfl) (by decide) (by decide) (by decide) (by decide) (tt_mono ?_ (h_X6_lay hN2 hN8 hp0 hp64 hw a0 ta0 a1 a2 a3 a4))
  intro pc' loc' st' h' hq
  rcases hq with hq | ⟨rfl, e1, e2, c⟩ | ⟨rfl, e1, e2, c⟩
  · exact Or.inl hq
  · exact Or.inr ⟨e1, e2, 67, "no such link or router", by decide, dX6_lay_26, dX6_lay_27, dX6_lay_32, Or.inl ⟨dX6_lay_23, dX6_lay_29, Or.inl ⟨rfl, c⟩⟩⟩
  · exact Or.inr ⟨e1, e2, 78, "the link is laid, its ends are the same, or its cost is not 1 .. 60", by decide, dX6_lay_66, dX6_lay_67, dX6_lay_72, Or.inr ⟨dX6_lay_63, dX6_lay_69, Or.inr ⟨rfl, c⟩⟩⟩
set_option maxHeartbeats 1000000 in
theorem g_X6_turn {l : Launch} {D : va_G} {N : Nat} {pk : Int} {τ : List Nat} (hl0 : l.stackTraces = false) (hN2 : 2 ≤ N) (hN8 : N ≤ 8) (hp0 : 0 ≤ pk) (hp64 : pk ≤ 64) {h : List tC} (hw : WT N pk τ h) (a0 : Nat) (ta0 : τ[a0]? = some 6) (a1 : Int32) (a2 : Int32) (la2 : 0 ≤ a2.toInt) (ua2 : a2.toInt ≤ 1) : TXc l D yX6_turn cX6_turn 3 none 6 143 3 14 [.inr (some a0), .inl a1, .inl a2] h (fun rv h' => (∃ τ1 : List Nat, tPre τ τ1 ∧ WT N pk τ1 h' ∧ Fr PXt τ h h') ∧ rv = none ∧ (0 ≤ a1.toInt ∧ a1.toInt ≤ 11) ∧ (∃ x : Int32, XL h a0 a1.toNatClampNeg x ∧ x.toInt ≠ 0) ∧ (∃ x : Int, XU h a0 a1.toNatClampNeg x ∧ x ≠ a2.toInt) ∧ UPS τ h h' a0 a1.toNatClampNeg a2.toInt) (fun E => (E = cIO ∧ ¬ (0 ≤ a1.toInt ∧ a1.toInt ≤ 11)) ∨ (E = cIA ∧ (0 ≤ a1.toInt ∧ a1.toInt ≤ 11) ∧ (XL h a0 a1.toNatClampNeg 0 ∨ XU h a0 a1.toNatClampNeg a2.toInt))) := by
  refine txc_of (F0' := 6) (L0' := 143) (mc0 := 2) (ms0 := 8) hl0 rfl rfl (Nat.le_of_ble_eq_true rfl) (by decide) (by decide) (by decide) (by decide) (tt_mono ?_ (h_X6_turnE hN2 hN8 hp0 hp64 hw a0 ta0 a1 a2 la2 ua2))
  intro pc' loc' st' h' hq
  rcases hq with hq | ⟨rfl, e1, e2, c⟩ | ⟨rfl, e1, e2, c⟩
  · refine Or.inl ?_
    rcases hq with ⟨d, r0, z, hq⟩ | ⟨x, d, z, hr, hq⟩ | ⟨v, C, d, z, hr, hq⟩
    · obtain ⟨τ1, q1, q2, q3, q4, q5⟩ := hq
      exact Or.inl ⟨d, r0, z, ⟨τ1, q1, q2, q3⟩, q4, q5⟩
    · rcases hr with hr | ⟨hr, -⟩ <;> cases hr
    · cases hr
  · exact Or.inr ⟨e1, e2, 90, "no such link", by decide, dX6_turn_10, dX6_turn_11, dX6_turn_16, Or.inl ⟨dX6_turn_7, dX6_turn_13, Or.inl ⟨rfl, c⟩⟩⟩
  · exact Or.inr ⟨e1, e2, 95, "the link is not laid, or so already", by decide, dX6_turn_45, dX6_turn_46, dX6_turn_51, Or.inr ⟨dX6_turn_42, dX6_turn_48, Or.inr ⟨rfl, c⟩⟩⟩
set_option maxHeartbeats 1000000 in
theorem g_X6_attach {l : Launch} {D : va_G} {N : Nat} {pk : Int} {τ : List Nat} (hl0 : l.stackTraces = false) (hN2 : 2 ≤ N) (hN8 : N ≤ 8) (hp0 : 0 ≤ pk) (hp64 : pk ≤ 64) {h : List tC} (hw : WT N pk τ h) (a0 : Nat) (ta0 : τ[a0]? = some 6) (a1 : Int32) (a2 : Int32) : TXc l D yX6_attach cX6_attach 4 none 6 119 3 14 [.inr (some a0), .inl a1, .inl a2] h (fun rv h' => (∃ τ1 : List Nat, tPre τ τ1 ∧ WT N pk τ1 h' ∧ Fr PXa τ h h') ∧ rv = none ∧ (0 ≤ a1.toInt ∧ a1.toInt ≤ 7 ∧ -1 ≤ a2.toInt ∧ a2.toInt ≤ (N : Int) - 1) ∧ ∃ (k : Nat) (xs : List Int32) (v : Int32), τ[k]? = some 10 ∧ h[k]? = some (.inl (0, xs)) ∧ xs[a1.toNatClampNeg]? = some v ∧ v.toInt ≠ a2.toInt ∧ h'[k]? = some (.inl (0, xs.set a1.toNatClampNeg a2))) (fun E => (E = cIO ∧ ¬ (0 ≤ a1.toInt ∧ a1.toInt ≤ 7 ∧ -1 ≤ a2.toInt ∧ a2.toInt ≤ (N : Int) - 1)) ∨ (E = cIA ∧ (0 ≤ a1.toInt ∧ a1.toInt ≤ 7 ∧ -1 ≤ a2.toInt ∧ a2.toInt ≤ (N : Int) - 1) ∧ ∃ v : Int32, ARV τ h 10 a1.toNatClampNeg v ∧ v.toInt = a2.toInt)) := by
  refine txc_of (F0' := 5) (L0' := 119) (mc0 := 2) (ms0 := 8) hl0 rfl rfl (Nat.le_of_ble_eq_true rfl) (by decide) (by decide) (by decide) (by decide) (tt_mono ?_ (h_X6_attachE hN2 hN8 hp0 hp64 hw a0 ta0 a1 a2))
  intro pc' loc' st' h' hq
  rcases hq with hq | ⟨rfl, e1, e2, c⟩ | ⟨rfl, e1, e2, c⟩
  · refine Or.inl ?_
    rcases hq with ⟨d, r0, z, hq⟩ | ⟨x, d, z, hr, hq⟩ | ⟨v, C, d, z, hr, hq⟩
    · obtain ⟨τ1, q1, q2, q3, q4, q5⟩ := hq
      exact Or.inl ⟨d, r0, z, ⟨τ1, q1, q2, q3⟩, q4, q5⟩
    · rcases hr with hr | ⟨hr, -⟩ <;> cases hr
    · cases hr
  · exact Or.inr ⟨e1, e2, 106, "no such prefix or router", by decide, dX6_attach_23, dX6_attach_24, dX6_attach_29, Or.inl ⟨dX6_attach_20, dX6_attach_26, Or.inl ⟨rfl, c⟩⟩⟩
  · exact Or.inr ⟨e1, e2, 108, "the prefix is attached so already", by decide, dX6_attach_45, dX6_attach_46, dX6_attach_51, Or.inr ⟨dX6_attach_42, dX6_attach_48, Or.inr ⟨rfl, c⟩⟩⟩
set_option maxHeartbeats 1000000 in
theorem g_X6_deliver {l : Launch} {D : va_G} {N : Nat} {pk : Int} {τ : List Nat} (hl0 : l.stackTraces = false) (hN2 : 2 ≤ N) (hN8 : N ≤ 8) (hp0 : 0 ≤ pk) (hp64 : pk ≤ 64) {h : List tC} (hw : WT N pk τ h) (a0 : Nat) (ta0 : τ[a0]? = some 6) (a1 : Int32) (a2 : Int32) : TXc l D yX6_deliver cX6_deliver 3 (some .int) 6 148 1 6 [.inr (some a0), .inl a1, .inl a2] h (fun rv h' => WT N pk τ h' ∧ Fr PX τ h h' ∧ ∃ x : Int32, rv = some (.inl x)) (fun E => (E = cIO ∧ True)) := by
  refine txc_of (F0' := 6) (L0' := 148) (mc0 := 0) (ms0 := 0) hl0 rfl rfl (Nat.le_of_ble_eq_true rfl) (by decide) (by decide) (by decide) (by decide) (tt_mono ?_ (h_X6_deliver hN2 hN8 hp0 hp64 hw a0 ta0 a1 a2))
  intro pc' loc' st' h' hq
  rcases hq with hq | ⟨rfl, e1, e2, c⟩
  · refine Or.inl ?_
    rcases hq with ⟨d, r0, z, hq⟩ | ⟨x, d, z, hr, hq⟩ | ⟨v, C, d, z, hr, hq⟩
    · cases r0
    · obtain ⟨q1, q2, y, q3, q4, q5⟩ := hq
      exact Or.inr (Or.inl ⟨x, d, z, hr, q1, q2, x, rfl⟩)
    · cases hr
  · exact Or.inr ⟨e1, e2, 120, "no such link or end", by decide, dX6_deliver_17, dX6_deliver_18, dX6_deliver_23, Or.inl ⟨dX6_deliver_14, dX6_deliver_20, ⟨rfl, c⟩⟩⟩
set_option maxHeartbeats 1000000 in
theorem g_X6_run {l : Launch} {D : va_G} {N : Nat} {pk : Int} {τ : List Nat} (hl0 : l.stackTraces = false) (hN2 : 2 ≤ N) (hN8 : N ≤ 8) (hp0 : 0 ≤ pk) (hp64 : pk ≤ 64) {h : List tC} (hw : WT N pk τ h) (a0 : Nat) (ta0 : τ[a0]? = some 6) (a1 : Int32) : TXc l D yX6_run cX6_run 4 (some .int) 6 148 1 6 [.inr (some a0), .inl a1] h (fun rv h' => WT N pk τ h' ∧ Fr PX τ h h' ∧ ∃ x : Int32, rv = some (.inl x)) (fun E => (E = cIA ∧ True)) := by
  refine txc_of (F0' := 6) (L0' := 148) (mc0 := 0) (ms0 := 0) hl0 rfl rfl (Nat.le_of_ble_eq_true rfl) (by decide) (by decide) (by decide) (by decide) (tt_mono ?_ (h_X6_run hN2 hN8 hp0 hp64 hw a0 ta0 a1))
  intro pc' loc' st' h' hq
  rcases hq with hq | ⟨rfl, e1, e2, c⟩
  · refine Or.inl ?_
    rcases hq with ⟨d, r0, z, hq⟩ | ⟨x, d, z, hr, hq⟩ | ⟨v, C, d, z, hr, hq⟩
    · cases r0
    · obtain ⟨q1, q2, y, q3, q4, q5⟩ := hq
      exact Or.inr (Or.inl ⟨x, d, z, hr, q1, q2, x, rfl⟩)
    · cases hr
  · exact Or.inr ⟨e1, e2, 125, "n is not 0 .. 500", by decide, dX6_run_14, dX6_run_15, dX6_run_20, Or.inr ⟨dX6_run_11, dX6_run_17, ⟨rfl, c⟩⟩⟩
set_option maxHeartbeats 1000000 in
theorem g_X6_spoil {l : Launch} {D : va_G} {N : Nat} {pk : Int} {τ : List Nat} (hl0 : l.stackTraces = false) (hN2 : 2 ≤ N) (hN8 : N ≤ 8) (hp0 : 0 ≤ pk) (hp64 : pk ≤ 64) {h : List tC} (hw : WT N pk τ h) (a0 : Nat) (ta0 : τ[a0]? = some 6) (a1 : Int32) (a2 : Int32) (a3 : Int32) : TXc l D yX6_spoil cX6_spoil 5 (some .boolean) 6 82 1 6 [.inr (some a0), .inl a1, .inl a2, .inl a3] h (fun rv h' => WT N pk τ h' ∧ Fr PX τ h h' ∧ ∃ x : Int32, rv = some (.inl x)) (fun E => (E = cIO ∧ True)) := by
  refine txc_of (F0' := 1) (L0' := 21) (mc0 := 0) (ms0 := 0) hl0 rfl rfl (Nat.le_of_ble_eq_true rfl) (by decide) (by decide) (by decide) (by decide) (tt_mono ?_ (h_X6_spoil hN2 hN8 hp0 hp64 hw a0 ta0 a1 a2 a3))
  intro pc' loc' st' h' hq
  rcases hq with hq | ⟨rfl, e1, e2, c⟩
  · refine Or.inl ?_
    rcases hq with ⟨d, r0, z, hq⟩ | ⟨x, d, z, hr, hq⟩ | ⟨v, C, d, z, hr, hq⟩
    · cases r0
    · obtain ⟨q1, q2, y, q3, q4, q5⟩ := hq
      exact Or.inr (Or.inl ⟨x, d, z, hr, q1, q2, x, rfl⟩)
    · cases hr
  · exact Or.inr ⟨e1, e2, 120, "no such link or end", by decide, dX6_spoil_17, dX6_spoil_18, dX6_spoil_23, Or.inl ⟨dX6_spoil_14, dX6_spoil_20, ⟨rfl, c⟩⟩⟩
set_option maxHeartbeats 1000000 in
theorem g_X6_inject {l : Launch} {D : va_G} {N : Nat} {pk : Int} {τ : List Nat} (hl0 : l.stackTraces = false) (hN2 : 2 ≤ N) (hN8 : N ≤ 8) (hp0 : 0 ≤ pk) (hp64 : pk ≤ 64) {h : List tC} (hw : WT N pk τ h) (a0 : Nat) (ta0 : τ[a0]? = some 6) (a1 : Int32) (a2 : Int32) (a3 : Int32) : TXc l D yX6_inject cX6_inject 5 (some .int) 6 122 2 11 [.inr (some a0), .inl a1, .inl a2, .inl a3] h (fun rv h' => (∃ τ1 : List Nat, tPre τ τ1 ∧ WT N (pk + 1) τ1 h' ∧ Fr PXi τ h h') ∧ (∃ x : Int32, rv = some (.inl x) ∧ x.toInt = pk) ∧ (0 ≤ a1.toInt ∧ a1.toInt ≤ (N : Int) - 1 ∧ 0 ≤ a2.toInt ∧ a2.toInt ≤ 7) ∧ 0 ≤ a3.toInt ∧ a3.toInt ≤ 60 ∧ pk < 64) (fun E => (E = cIO ∧ ¬ (0 ≤ a1.toInt ∧ a1.toInt ≤ (N : Int) - 1 ∧ 0 ≤ a2.toInt ∧ a2.toInt ≤ 7)) ∨ (E = cIA ∧ (0 ≤ a1.toInt ∧ a1.toInt ≤ (N : Int) - 1 ∧ 0 ≤ a2.toInt ∧ a2.toInt ≤ 7) ∧ (a3.toInt < 0 ∨ 60 < a3.toInt ∨ 64 ≤ pk))) := by
  refine txc_of (F0' := 5) (L0' := 122) (mc0 := 1) (ms0 := 5) hl0 rfl rfl (Nat.le_of_ble_eq_true rfl) (by decide) (by decide) (by decide) (by decide) (tt_mono ?_ (h_X6_inject hN2 hN8 hp0 hp64 hw a0 ta0 a1 a2 a3))
  intro pc' loc' st' h' hq
  rcases hq with hq | ⟨rfl, e1, e2, c⟩ | ⟨rfl, e1, e2, c⟩
  · refine Or.inl ?_
    rcases hq with ⟨d, r0, z, hq⟩ | ⟨x, d, z, hr, hq⟩ | ⟨v, C, d, z, hr, hq⟩
    · cases r0
    · obtain ⟨τ1, q1, q2, q3, q4, q5, q6, q7, q8⟩ := hq
      exact Or.inr (Or.inl ⟨x, d, z, hr, ⟨τ1, q1, q2, q3⟩, q4, q5, q6, q7, q8⟩)
    · cases hr
  · exact Or.inr ⟨e1, e2, 144, "no such router or prefix", by decide, dX6_inject_18, dX6_inject_19, dX6_inject_24, Or.inl ⟨dX6_inject_15, dX6_inject_21, Or.inl ⟨rfl, c⟩⟩⟩
  · exact Or.inr ⟨e1, e2, 146, "TTL is not 0 .. 60, or there are 64 packets", by decide, dX6_inject_47, dX6_inject_48, dX6_inject_53, Or.inr ⟨dX6_inject_44, dX6_inject_50, Or.inr ⟨rfl, c⟩⟩⟩
set_option maxHeartbeats 2000000 in
theorem g_L_lay {l : Launch} {D : va_G} {N : Nat} {pk : Int} {τ : List Nat} (hl0 : l.stackTraces = false) (hN2 : 2 ≤ N) (hN8 : N ≤ 8) (hp0 : 0 ≤ pk) (hp64 : pk ≤ 64) {h : List tC} (hw : WT N pk τ h) (a0 : Nat) (ta0 : τ[a0]? = some 6) (a1 : Int32) (a2 : Int32) (a3 : Int32) (a4 : Int32) : THc l D yL_lay cL_lay 6 (some .int) [(0, 9, 12, 13), (0, 9, 16, 15)] 7 107 1 6 [.inr (some a0), .inl a1, .inl a2, .inl a3, .inl a4] h (fun rv h' => (∃ k : Int32, rv = some (.inl k) ∧ k.toInt = 0 ∧ ∃ rv0 : Option tV, (fun rv h' => WT N pk τ h' ∧ LAID h h' a0 a1.toNatClampNeg ∧ (0 ≤ a1.toInt ∧ a1.toInt ≤ 11 ∧ 0 ≤ a2.toInt ∧ a2.toInt ≤ (N : Int) - 1 ∧ 0 ≤ a3.toInt ∧ a3.toInt ≤ (N : Int) - 1) ∧ a2.toInt ≠ a3.toInt ∧ 1 ≤ a4.toInt ∧ a4.toInt ≤ 60 ∧ rv = none) rv0 h') ∨ (∃ k : Int32, rv = some (.inl k) ∧ k.toInt = 1 ∧ h' = h ∧ ¬ (0 ≤ a1.toInt ∧ a1.toInt ≤ 11 ∧ 0 ≤ a2.toInt ∧ a2.toInt ≤ (N : Int) - 1 ∧ 0 ≤ a3.toInt ∧ a3.toInt ≤ (N : Int) - 1)) ∨ (∃ k : Int32, rv = some (.inl k) ∧ k.toInt = 2 ∧ h' = h ∧ (0 ≤ a1.toInt ∧ a1.toInt ≤ 11 ∧ 0 ≤ a2.toInt ∧ a2.toInt ≤ (N : Int) - 1 ∧ 0 ≤ a3.toInt ∧ a3.toInt ≤ (N : Int) - 1) ∧ (a2.toInt = a3.toInt ∨ a4.toInt < 1 ∨ 60 < a4.toInt ∨ ∃ x : Int32, XL h a0 a1.toNatClampNeg x ∧ x.toInt ≠ 0))) := by
  obtain ⟨fs0, e0, -⟩ := wt_obj hw ta0 (by decide)
  refine thc_of (F := 7) (L := 107) (cp := 6) (ci := 6) (a := a0) (as2 := [.inl a1, .inl a2, .inl a3, .inl a4]) (stR := []) (locC := [(0, .inr (some a0)), (1, .inl a1), (2, .inl a2), (3, .inl a3), (4, .inl a4)]) (mc2 := 1) (ms2 := 6) (kc2 := 0) (ks2 := 0) rfl rfl (Nat.le_of_ble_eq_true rfl) ?_ dL_lay_6 lkL_7 imX6_lay seX6_lay rfl e0 rfl (by decide) (by decide) (Nat.le_of_ble_eq_true rfl) (g_X6_lay hl0 hN2 hN8 hp0 hp64 hw a0 ta0 a1 a2 a3 a4) rfl rfl ?_ ?_
  · show TT l D _ _ 0 0 0 [(0, .inr (some a0)), (1, .inl a1), (2, .inl a2), (3, .inl a3), (4, .inl a4)] [] h
    refine tt_aload_n (pc := 0) dL_lay_0 (.head _) ?_
    refine tt_iload_n (pc := 1) dL_lay_1 (.tail _ (.head _)) ?_
    refine tt_iload_n (pc := 2) dL_lay_2 (.tail _ (.tail _ (.head _))) ?_
    refine tt_iload_n (pc := 3) dL_lay_3 (.tail _ (.tail _ (.tail _ (.head _)))) ?_
    refine tt_iload (pc := 4) dL_lay_4 (.tail _ (.tail _ (.tail _ (.tail _ (.head _))))) ?_
    exact tt_stop ⟨rfl, rfl, rfl, rfl⟩
  · intro rv h' hq
    have e9 : rv = none := by
      first | exact hq.2.1 | exact hq.2 | (obtain ⟨q1, q2, q3, q4, q5, q6, q7⟩ := hq; exact q7)
    subst e9
    show TT l D _ _ 0 0 9 [(0, .inr (some a0)), (1, .inl a1), (2, .inl a2), (3, .inl a3), (4, .inl a4)] [] h'
    refine tt_goto (tgt := 20) (pc := 9) dL_lay_9 (by decide) ?_
    refine tw_iconst (pc := 20) dL_lay_20 (by decide) (fun k9 hk9 => ?_)
    exact tt_stop (Or.inr (Or.inl ⟨k9, dL_lay_21, rfl, Or.inl rfl, Or.inl ⟨k9, rfl, hk9, none, hq⟩⟩))
  · intro E hq
    rcases hq with ⟨rfl, c⟩ | ⟨rfl, c⟩
    · refine ⟨[], ⟨0, 9, 12, 13⟩, [⟨0, 9, 16, 15⟩], rfl, (fun z hz => nomatch hz), by decide, by decide, klL_13, Or.inl rfl, Or.inl ⟨5, dL_lay_12, by decide, ?_⟩⟩
      show TT l D _ _ 0 0 14 [] [] h
      refine tw_iconst (pc := 14) dL_lay_14 (by decide) (fun k9 hk9 => ?_)
      exact tt_stop (Or.inr (Or.inl ⟨k9, dL_lay_15, rfl, Or.inl rfl, Or.inr (Or.inl ⟨k9, rfl, hk9, rfl, c⟩)⟩))
    · refine ⟨[⟨0, 9, 12, 13⟩], ⟨0, 9, 16, 15⟩, [], rfl, (fun z hz => by rw [List.mem_singleton.mp hz]; exact ⟨by decide, klL_13, rfl⟩), by decide, by decide, klL_15, Or.inr rfl, Or.inl ⟨5, dL_lay_16, by decide, ?_⟩⟩
      show TT l D _ _ 0 0 18 [] [] h
      refine tw_iconst (pc := 18) dL_lay_18 (by decide) (fun k9 hk9 => ?_)
      exact tt_stop (Or.inr (Or.inl ⟨k9, dL_lay_19, rfl, Or.inl rfl, Or.inr (Or.inr ⟨k9, rfl, hk9, rfl, c⟩)⟩))
set_option maxHeartbeats 2000000 in
theorem g_L_turn {l : Launch} {D : va_G} {N : Nat} {pk : Int} {τ : List Nat} (hl0 : l.stackTraces = false) (hN2 : 2 ≤ N) (hN8 : N ≤ 8) (hp0 : 0 ≤ pk) (hp64 : pk ≤ 64) {h : List tC} (hw : WT N pk τ h) (a0 : Nat) (ta0 : τ[a0]? = some 6) (a1 : Int32) (a2 : Int32) (la2 : 0 ≤ a2.toInt) (ua2 : a2.toInt ≤ 1) : THc l D yL_turn cL_turn 4 (some .int) [(0, 6, 9, 13), (0, 6, 12, 15)] 7 165 3 14 [.inr (some a0), .inl a1, .inl a2] h (fun rv h' => (∃ k : Int32, rv = some (.inl k) ∧ k.toInt = 0 ∧ ∃ rv0 : Option tV, (fun rv h' => (∃ τ1 : List Nat, tPre τ τ1 ∧ WT N pk τ1 h' ∧ Fr PXt τ h h') ∧ rv = none ∧ (0 ≤ a1.toInt ∧ a1.toInt ≤ 11) ∧ (∃ x : Int32, XL h a0 a1.toNatClampNeg x ∧ x.toInt ≠ 0) ∧ (∃ x : Int, XU h a0 a1.toNatClampNeg x ∧ x ≠ a2.toInt) ∧ UPS τ h h' a0 a1.toNatClampNeg a2.toInt) rv0 h') ∨ (∃ k : Int32, rv = some (.inl k) ∧ k.toInt = 1 ∧ h' = h ∧ ¬ (0 ≤ a1.toInt ∧ a1.toInt ≤ 11)) ∨ (∃ k : Int32, rv = some (.inl k) ∧ k.toInt = 2 ∧ h' = h ∧ (0 ≤ a1.toInt ∧ a1.toInt ≤ 11) ∧ (XL h a0 a1.toNatClampNeg 0 ∨ XU h a0 a1.toNatClampNeg a2.toInt))) := by
  obtain ⟨fs0, e0, -⟩ := wt_obj hw ta0 (by decide)
  refine thc_of (F := 7) (L := 165) (cp := 3) (ci := 6) (a := a0) (as2 := [.inl a1, .inl a2]) (stR := []) (locC := [(0, .inr (some a0)), (1, .inl a1), (2, .inl a2)]) (mc2 := 3) (ms2 := 14) (kc2 := 0) (ks2 := 0) rfl rfl (Nat.le_of_ble_eq_true rfl) ?_ dL_turn_3 lkL_17 imX6_turn seX6_turn rfl e0 rfl (by decide) (by decide) (Nat.le_of_ble_eq_true rfl) (g_X6_turn hl0 hN2 hN8 hp0 hp64 hw a0 ta0 a1 a2 la2 ua2) rfl rfl ?_ ?_
  · show TT l D _ _ 0 0 0 [(0, .inr (some a0)), (1, .inl a1), (2, .inl a2)] [] h
    refine tt_aload_n (pc := 0) dL_turn_0 (.head _) ?_
    refine tt_iload_n (pc := 1) dL_turn_1 (.tail _ (.head _)) ?_
    refine tt_iload_n (pc := 2) dL_turn_2 (.tail _ (.tail _ (.head _))) ?_
    exact tt_stop ⟨rfl, rfl, rfl, rfl⟩
  · intro rv h' hq
    have e9 : rv = none := by
      first | exact hq.2.1 | exact hq.2 | (obtain ⟨q1, q2, q3, q4, q5, q6, q7⟩ := hq; exact q7)
    subst e9
    show TT l D _ _ 0 0 6 [(0, .inr (some a0)), (1, .inl a1), (2, .inl a2)] [] h'
    refine tt_goto (tgt := 15) (pc := 6) dL_turn_6 (by decide) ?_
    refine tw_iconst (pc := 15) dL_turn_15 (by decide) (fun k9 hk9 => ?_)
    exact tt_stop (Or.inr (Or.inl ⟨k9, dL_turn_16, rfl, Or.inl rfl, Or.inl ⟨k9, rfl, hk9, none, hq⟩⟩))
  · intro E hq
    rcases hq with ⟨rfl, c⟩ | ⟨rfl, c⟩
    · refine ⟨[], ⟨0, 6, 9, 13⟩, [⟨0, 6, 12, 15⟩], rfl, (fun z hz => nomatch hz), by decide, by decide, klL_13, Or.inl rfl, Or.inr ⟨3, dL_turn_9, by decide, ?_⟩⟩
      show TT l D _ _ 0 0 10 [] [] h
      refine tw_iconst (pc := 10) dL_turn_10 (by decide) (fun k9 hk9 => ?_)
      exact tt_stop (Or.inr (Or.inl ⟨k9, dL_turn_11, rfl, Or.inl rfl, Or.inr (Or.inl ⟨k9, rfl, hk9, rfl, c⟩)⟩))
    · refine ⟨[⟨0, 6, 9, 13⟩], ⟨0, 6, 12, 15⟩, [], rfl, (fun z hz => by rw [List.mem_singleton.mp hz]; exact ⟨by decide, klL_13, rfl⟩), by decide, by decide, klL_15, Or.inr rfl, Or.inr ⟨3, dL_turn_12, by decide, ?_⟩⟩
      show TT l D _ _ 0 0 13 [] [] h
      refine tw_iconst (pc := 13) dL_turn_13 (by decide) (fun k9 hk9 => ?_)
      exact tt_stop (Or.inr (Or.inl ⟨k9, dL_turn_14, rfl, Or.inl rfl, Or.inr (Or.inr ⟨k9, rfl, hk9, rfl, c⟩)⟩))
set_option maxHeartbeats 2000000 in
theorem g_L_attach {l : Launch} {D : va_G} {N : Nat} {pk : Int} {τ : List Nat} (hl0 : l.stackTraces = false) (hN2 : 2 ≤ N) (hN8 : N ≤ 8) (hp0 : 0 ≤ pk) (hp64 : pk ≤ 64) {h : List tC} (hw : WT N pk τ h) (a0 : Nat) (ta0 : τ[a0]? = some 6) (a1 : Int32) (a2 : Int32) : THc l D yL_attach cL_attach 4 (some .int) [(0, 6, 9, 13), (0, 6, 12, 15)] 7 142 3 14 [.inr (some a0), .inl a1, .inl a2] h (fun rv h' => (∃ k : Int32, rv = some (.inl k) ∧ k.toInt = 0 ∧ ∃ rv0 : Option tV, (fun rv h' => (∃ τ1 : List Nat, tPre τ τ1 ∧ WT N pk τ1 h' ∧ Fr PXa τ h h') ∧ rv = none ∧ (0 ≤ a1.toInt ∧ a1.toInt ≤ 7 ∧ -1 ≤ a2.toInt ∧ a2.toInt ≤ (N : Int) - 1) ∧ ∃ (k : Nat) (xs : List Int32) (v : Int32), τ[k]? = some 10 ∧ h[k]? = some (.inl (0, xs)) ∧ xs[a1.toNatClampNeg]? = some v ∧ v.toInt ≠ a2.toInt ∧ h'[k]? = some (.inl (0, xs.set a1.toNatClampNeg a2))) rv0 h') ∨ (∃ k : Int32, rv = some (.inl k) ∧ k.toInt = 1 ∧ h' = h ∧ ¬ (0 ≤ a1.toInt ∧ a1.toInt ≤ 7 ∧ -1 ≤ a2.toInt ∧ a2.toInt ≤ (N : Int) - 1)) ∨ (∃ k : Int32, rv = some (.inl k) ∧ k.toInt = 2 ∧ h' = h ∧ (0 ≤ a1.toInt ∧ a1.toInt ≤ 7 ∧ -1 ≤ a2.toInt ∧ a2.toInt ≤ (N : Int) - 1) ∧ ∃ v : Int32, ARV τ h 10 a1.toNatClampNeg v ∧ v.toInt = a2.toInt)) := by
  obtain ⟨fs0, e0, -⟩ := wt_obj hw ta0 (by decide)
  refine thc_of (F := 7) (L := 142) (cp := 3) (ci := 6) (a := a0) (as2 := [.inl a1, .inl a2]) (stR := []) (locC := [(0, .inr (some a0)), (1, .inl a1), (2, .inl a2)]) (mc2 := 3) (ms2 := 14) (kc2 := 0) (ks2 := 0) rfl rfl (Nat.le_of_ble_eq_true rfl) ?_ dL_attach_3 lkL_21 imX6_attach seX6_attach rfl e0 rfl (by decide) (by decide) (Nat.le_of_ble_eq_true rfl) (g_X6_attach hl0 hN2 hN8 hp0 hp64 hw a0 ta0 a1 a2) rfl rfl ?_ ?_
  · show TT l D _ _ 0 0 0 [(0, .inr (some a0)), (1, .inl a1), (2, .inl a2)] [] h
    refine tt_aload_n (pc := 0) dL_attach_0 (.head _) ?_
    refine tt_iload_n (pc := 1) dL_attach_1 (.tail _ (.head _)) ?_
    refine tt_iload_n (pc := 2) dL_attach_2 (.tail _ (.tail _ (.head _))) ?_
    exact tt_stop ⟨rfl, rfl, rfl, rfl⟩
  · intro rv h' hq
    have e9 : rv = none := by
      first | exact hq.2.1 | exact hq.2 | (obtain ⟨q1, q2, q3, q4, q5, q6, q7⟩ := hq; exact q7)
    subst e9
    show TT l D _ _ 0 0 6 [(0, .inr (some a0)), (1, .inl a1), (2, .inl a2)] [] h'
    refine tt_goto (tgt := 15) (pc := 6) dL_attach_6 (by decide) ?_
    refine tw_iconst (pc := 15) dL_attach_15 (by decide) (fun k9 hk9 => ?_)
    exact tt_stop (Or.inr (Or.inl ⟨k9, dL_attach_16, rfl, Or.inl rfl, Or.inl ⟨k9, rfl, hk9, none, hq⟩⟩))
  · intro E hq
    rcases hq with ⟨rfl, c⟩ | ⟨rfl, c⟩
    · refine ⟨[], ⟨0, 6, 9, 13⟩, [⟨0, 6, 12, 15⟩], rfl, (fun z hz => nomatch hz), by decide, by decide, klL_13, Or.inl rfl, Or.inr ⟨3, dL_attach_9, by decide, ?_⟩⟩
      show TT l D _ _ 0 0 10 [] [] h
      refine tw_iconst (pc := 10) dL_attach_10 (by decide) (fun k9 hk9 => ?_)
      exact tt_stop (Or.inr (Or.inl ⟨k9, dL_attach_11, rfl, Or.inl rfl, Or.inr (Or.inl ⟨k9, rfl, hk9, rfl, c⟩)⟩))
    · refine ⟨[⟨0, 6, 9, 13⟩], ⟨0, 6, 12, 15⟩, [], rfl, (fun z hz => by rw [List.mem_singleton.mp hz]; exact ⟨by decide, klL_13, rfl⟩), by decide, by decide, klL_15, Or.inr rfl, Or.inr ⟨3, dL_attach_12, by decide, ?_⟩⟩
      show TT l D _ _ 0 0 13 [] [] h
      refine tw_iconst (pc := 13) dL_attach_13 (by decide) (fun k9 hk9 => ?_)
      exact tt_stop (Or.inr (Or.inl ⟨k9, dL_attach_14, rfl, Or.inl rfl, Or.inr (Or.inr ⟨k9, rfl, hk9, rfl, c⟩)⟩))
set_option maxHeartbeats 2000000 in
theorem g_L_deliver {l : Launch} {D : va_G} {N : Nat} {pk : Int} {τ : List Nat} (hl0 : l.stackTraces = false) (hN2 : 2 ≤ N) (hN8 : N ≤ 8) (hp0 : 0 ≤ pk) (hp64 : pk ≤ 64) {h : List tC} (hw : WT N pk τ h) (a0 : Nat) (ta0 : τ[a0]? = some 6) (a1 : Int32) (a2 : Int32) (ko : Nat) (cc0 : Int32) (eo : h[ko]? = some (.inl (9, [cc0]))) (to : τ[ko]? = some 29) : THc l D yL_deliver cL_deliver 5 (some .int) [(0, 10, 13, 13)] 7 170 1 6 [.inr (some a0), .inl a1, .inl a2, .inr (some ko)] h (fun rv h' => (∃ k : Int32, rv = some (.inl k) ∧ k.toInt = 0 ∧ ∃ (rv0 : Option tV) (h1 : List tC) (y : Int32), (fun rv h' => WT N pk τ h' ∧ Fr PX τ h h' ∧ ∃ x : Int32, rv = some (.inl x)) rv0 h1 ∧ h' = h1.set ko (.inl (9, [y])) ∧ rv0 = some (.inl y)) ∨ (∃ k : Int32, rv = some (.inl k) ∧ k.toInt = 1 ∧ h' = h ∧ True)) := by
  obtain ⟨fs0, e0, -⟩ := wt_obj hw ta0 (by decide)
  obtain ⟨z0, hz0⟩ : ∃ z : Int32, z = Int32.ofInt 0 := ⟨_, rfl⟩
  have hz1 : z0.toInt = 0 := by rw [hz0]; decide
  refine thc_of (F := 7) (L := 170) (cp := 5) (ci := 6) (a := a0) (as2 := [.inl a1, .inl a2]) (stR := [.inl z0, .inr (some ko)]) (locC := [(0, .inr (some a0)), (1, .inl a1), (2, .inl a2), (3, .inr (some ko))]) (mc2 := 1) (ms2 := 6) (kc2 := 0) (ks2 := 0) rfl rfl (Nat.le_of_ble_eq_true rfl) ?_ dL_deliver_5 lkL_25 imX6_deliver seX6_deliver rfl e0 rfl (by decide) (by decide) (Nat.le_of_ble_eq_true rfl) (g_X6_deliver hl0 hN2 hN8 hp0 hp64 hw a0 ta0 a1 a2) rfl rfl ?_ ?_
  · show TT l D _ _ 0 0 0 [(0, .inr (some a0)), (1, .inl a1), (2, .inl a2), (3, .inr (some ko))] [] h
    refine tt_aload_n (pc := 0) dL_deliver_0 (.tail _ (.tail _ (.tail _ (.head _)))) ?_
    refine tt_iconst (pc := 1) dL_deliver_1 ?_
    rw [← hz0]
    refine tt_aload_n (pc := 2) dL_deliver_2 (.head _) ?_
    refine tt_iload_n (pc := 3) dL_deliver_3 (.tail _ (.head _)) ?_
    refine tt_iload_n (pc := 4) dL_deliver_4 (.tail _ (.tail _ (.head _))) ?_
    exact tt_stop ⟨rfl, rfl, rfl, rfl⟩
  · intro rv h' hq
    obtain ⟨w1, f1, x9, rfl⟩ := id hq
    have eo' : h'[ko]? = some (.inl (9, [cc0])) := by rw [fr_k29 f1 (fun j => rfl) to (t_at eo)]; exact eo
    show TT l D _ _ 0 0 8 [(0, .inr (some a0)), (1, .inl a1), (2, .inl a2), (3, .inr (some ko))] [.inl x9, .inl z0, .inr (some ko)] h'
    have eset : ∀ y : Int32, ([cc0] : List Int32).set z0.toNatClampNeg y = [y] := fun y => by rw [i_ix (i := 0) (by rw [hz1]; rfl)]; rfl
    refine tt_i2lst (pc := 8) dL_deliver_8 dL_deliver_9 eo' (i_nn (by omega)) (by show z0.toInt.toNat < 1; omega) ?_
    rw [eset]
    refine tt_goto (tgt := 17) (pc := 10) dL_deliver_10 (by decide) ?_
    refine tw_iconst (pc := 17) dL_deliver_17 (by decide) (fun k9 hk9 => ?_)
    exact tt_stop (Or.inr (Or.inl ⟨k9, dL_deliver_18, rfl, Or.inl rfl, Or.inl ⟨k9, rfl, hk9, _, _, x9, hq, rfl, rfl⟩⟩))
  · intro E hq
    obtain ⟨rfl, c⟩ := hq
    refine ⟨[], ⟨0, 10, 13, 13⟩, [], rfl, (fun z hz => nomatch hz), by decide, by decide, klL_13, Or.inl rfl, Or.inl ⟨4, dL_deliver_13, by decide, ?_⟩⟩
    show TT l D _ _ 0 0 15 [] [] h
    refine tw_iconst (pc := 15) dL_deliver_15 (by decide) (fun k9 hk9 => ?_)
    exact tt_stop (Or.inr (Or.inl ⟨k9, dL_deliver_16, rfl, Or.inl rfl, Or.inr ⟨k9, rfl, hk9, rfl, c⟩⟩))
set_option maxHeartbeats 2000000 in
theorem g_L_run {l : Launch} {D : va_G} {N : Nat} {pk : Int} {τ : List Nat} (hl0 : l.stackTraces = false) (hN2 : 2 ≤ N) (hN8 : N ≤ 8) (hp0 : 0 ≤ pk) (hp64 : pk ≤ 64) {h : List tC} (hw : WT N pk τ h) (a0 : Nat) (ta0 : τ[a0]? = some 6) (a1 : Int32) (ko : Nat) (cc0 : Int32) (eo : h[ko]? = some (.inl (9, [cc0]))) (to : τ[ko]? = some 29) : THc l D yL_run cL_run 4 (some .int) [(0, 9, 12, 15)] 7 171 1 6 [.inr (some a0), .inl a1, .inr (some ko)] h (fun rv h' => (∃ k : Int32, rv = some (.inl k) ∧ k.toInt = 0 ∧ ∃ (rv0 : Option tV) (h1 : List tC) (y : Int32), (fun rv h' => WT N pk τ h' ∧ Fr PX τ h h' ∧ ∃ x : Int32, rv = some (.inl x)) rv0 h1 ∧ h' = h1.set ko (.inl (9, [y])) ∧ rv0 = some (.inl y)) ∨ (∃ k : Int32, rv = some (.inl k) ∧ k.toInt = 1 ∧ h' = h ∧ True)) := by
  obtain ⟨fs0, e0, -⟩ := wt_obj hw ta0 (by decide)
  obtain ⟨z0, hz0⟩ : ∃ z : Int32, z = Int32.ofInt 0 := ⟨_, rfl⟩
  have hz1 : z0.toInt = 0 := by rw [hz0]; decide
  refine thc_of (F := 7) (L := 171) (cp := 4) (ci := 6) (a := a0) (as2 := [.inl a1]) (stR := [.inl z0, .inr (some ko)]) (locC := [(0, .inr (some a0)), (1, .inl a1), (2, .inr (some ko))]) (mc2 := 1) (ms2 := 6) (kc2 := 0) (ks2 := 0) rfl rfl (Nat.le_of_ble_eq_true rfl) ?_ dL_run_4 lkL_29 imX6_run seX6_run rfl e0 rfl (by decide) (by decide) (Nat.le_of_ble_eq_true rfl) (g_X6_run hl0 hN2 hN8 hp0 hp64 hw a0 ta0 a1) rfl rfl ?_ ?_
  · show TT l D _ _ 0 0 0 [(0, .inr (some a0)), (1, .inl a1), (2, .inr (some ko))] [] h
    refine tt_aload_n (pc := 0) dL_run_0 (.tail _ (.tail _ (.head _))) ?_
    refine tt_iconst (pc := 1) dL_run_1 ?_
    rw [← hz0]
    refine tt_aload_n (pc := 2) dL_run_2 (.head _) ?_
    refine tt_iload_n (pc := 3) dL_run_3 (.tail _ (.head _)) ?_
    exact tt_stop ⟨rfl, rfl, rfl, rfl⟩
  · intro rv h' hq
    obtain ⟨w1, f1, x9, rfl⟩ := id hq
    have eo' : h'[ko]? = some (.inl (9, [cc0])) := by rw [fr_k29 f1 (fun j => rfl) to (t_at eo)]; exact eo
    show TT l D _ _ 0 0 7 [(0, .inr (some a0)), (1, .inl a1), (2, .inr (some ko))] [.inl x9, .inl z0, .inr (some ko)] h'
    have eset : ∀ y : Int32, ([cc0] : List Int32).set z0.toNatClampNeg y = [y] := fun y => by rw [i_ix (i := 0) (by rw [hz1]; rfl)]; rfl
    refine tt_i2lst (pc := 7) dL_run_7 dL_run_8 eo' (i_nn (by omega)) (by show z0.toInt.toNat < 1; omega) ?_
    rw [eset]
    refine tt_goto (tgt := 15) (pc := 9) dL_run_9 (by decide) ?_
    refine tw_iconst (pc := 15) dL_run_15 (by decide) (fun k9 hk9 => ?_)
    exact tt_stop (Or.inr (Or.inl ⟨k9, dL_run_16, rfl, Or.inl rfl, Or.inl ⟨k9, rfl, hk9, _, _, x9, hq, rfl, rfl⟩⟩))
  · intro E hq
    obtain ⟨rfl, c⟩ := hq
    refine ⟨[], ⟨0, 9, 12, 15⟩, [], rfl, (fun z hz => nomatch hz), by decide, by decide, klL_15, Or.inr rfl, Or.inr ⟨3, dL_run_12, by decide, ?_⟩⟩
    show TT l D _ _ 0 0 13 [] [] h
    refine tw_iconst (pc := 13) dL_run_13 (by decide) (fun k9 hk9 => ?_)
    exact tt_stop (Or.inr (Or.inl ⟨k9, dL_run_14, rfl, Or.inl rfl, Or.inr ⟨k9, rfl, hk9, rfl, c⟩⟩))
set_option maxHeartbeats 2000000 in
theorem g_L_spoil {l : Launch} {D : va_G} {N : Nat} {pk : Int} {τ : List Nat} (hl0 : l.stackTraces = false) (hN2 : 2 ≤ N) (hN8 : N ≤ 8) (hp0 : 0 ≤ pk) (hp64 : pk ≤ 64) {h : List tC} (hw : WT N pk τ h) (a0 : Nat) (ta0 : τ[a0]? = some 6) (a1 : Int32) (a2 : Int32) (a3 : Int32) (ko : Nat) (cc0 : Int32) (eo : h[ko]? = some (.inl (9, [cc0]))) (to : τ[ko]? = some 29) : THc l D yL_spoil cL_spoil 6 (some .int) [(0, 19, 22, 13)] 7 106 1 6 [.inr (some a0), .inl a1, .inl a2, .inl a3, .inr (some ko)] h (fun rv h' => (∃ k : Int32, rv = some (.inl k) ∧ k.toInt = 0 ∧ ∃ (rv0 : Option tV) (h1 : List tC) (y : Int32), (fun rv h' => WT N pk τ h' ∧ Fr PX τ h h' ∧ ∃ x : Int32, rv = some (.inl x)) rv0 h1 ∧ h' = h1.set ko (.inl (9, [y]))) ∨ (∃ k : Int32, rv = some (.inl k) ∧ k.toInt = 1 ∧ h' = h ∧ True)) := by
  obtain ⟨fs0, e0, -⟩ := wt_obj hw ta0 (by decide)
  obtain ⟨z0, hz0⟩ : ∃ z : Int32, z = Int32.ofInt 0 := ⟨_, rfl⟩
  have hz1 : z0.toInt = 0 := by rw [hz0]; decide
  refine thc_of (F := 7) (L := 106) (cp := 7) (ci := 6) (a := a0) (as2 := [.inl a1, .inl a2, .inl a3]) (stR := [.inl z0, .inr (some ko)]) (locC := [(0, .inr (some a0)), (1, .inl a1), (2, .inl a2), (3, .inl a3), (4, .inr (some ko))]) (mc2 := 1) (ms2 := 6) (kc2 := 0) (ks2 := 0) rfl rfl (Nat.le_of_ble_eq_true rfl) ?_ dL_spoil_7 lkL_33 imX6_spoil seX6_spoil rfl e0 rfl (by decide) (by decide) (Nat.le_of_ble_eq_true rfl) (g_X6_spoil hl0 hN2 hN8 hp0 hp64 hw a0 ta0 a1 a2 a3) rfl rfl ?_ ?_
  · show TT l D _ _ 0 0 0 [(0, .inr (some a0)), (1, .inl a1), (2, .inl a2), (3, .inl a3), (4, .inr (some ko))] [] h
    refine tt_aload (pc := 0) dL_spoil_0 (.tail _ (.tail _ (.tail _ (.tail _ (.head _))))) ?_
    refine tt_iconst (pc := 2) dL_spoil_2 ?_
    rw [← hz0]
    refine tt_aload_n (pc := 3) dL_spoil_3 (.head _) ?_
    refine tt_iload_n (pc := 4) dL_spoil_4 (.tail _ (.head _)) ?_
    refine tt_iload_n (pc := 5) dL_spoil_5 (.tail _ (.tail _ (.head _))) ?_
    refine tt_iload_n (pc := 6) dL_spoil_6 (.tail _ (.tail _ (.tail _ (.head _)))) ?_
    exact tt_stop ⟨rfl, rfl, rfl, rfl⟩
  · intro rv h' hq
    obtain ⟨w1, f1, x9, rfl⟩ := id hq
    have eo' : h'[ko]? = some (.inl (9, [cc0])) := by rw [fr_k29 f1 (fun j => rfl) to (t_at eo)]; exact eo
    show TT l D _ _ 0 0 10 [(0, .inr (some a0)), (1, .inl a1), (2, .inl a2), (3, .inl a3), (4, .inr (some ko))] [.inl x9, .inl z0, .inr (some ko)] h'
    have eset : ∀ y : Int32, ([cc0] : List Int32).set z0.toNatClampNeg y = [y] := fun y => by rw [i_ix (i := 0) (by rw [hz1]; rfl)]; rfl
    refine tw_if (tgt := 17) (pc := 10) dL_spoil_10 (by decide) (fun _ => ?_) (fun _ => ?_)
    · refine tt_lcst (pc := 17) (lp := 18) dL_spoil_17 (Or.inl rfl) dL_spoil_18 eo' (i_nn (by omega)) (by show z0.toInt.toNat < 1; omega) (fun y9 => ?_)
      rw [eset]
      refine tt_goto (tgt := 26) (pc := 19) dL_spoil_19 (by decide) ?_
      refine tw_iconst (pc := 26) dL_spoil_26 (by decide) (fun k9 hk9 => ?_)
      exact tt_stop (Or.inr (Or.inl ⟨k9, dL_spoil_27, rfl, Or.inl rfl, Or.inl ⟨k9, rfl, hk9, _, _, y9, hq, rfl⟩⟩))
    · refine tt_lcst (pc := 13) (lp := 18) dL_spoil_13 (Or.inr ⟨_, dL_spoil_14, by decide⟩) dL_spoil_18 eo' (i_nn (by omega)) (by show z0.toInt.toNat < 1; omega) (fun y9 => ?_)
      rw [eset]
      refine tt_goto (tgt := 26) (pc := 19) dL_spoil_19 (by decide) ?_
      refine tw_iconst (pc := 26) dL_spoil_26 (by decide) (fun k9 hk9 => ?_)
      exact tt_stop (Or.inr (Or.inl ⟨k9, dL_spoil_27, rfl, Or.inl rfl, Or.inl ⟨k9, rfl, hk9, _, _, y9, hq, rfl⟩⟩))
  · intro E hq
    obtain ⟨rfl, c⟩ := hq
    refine ⟨[], ⟨0, 19, 22, 13⟩, [], rfl, (fun z hz => nomatch hz), by decide, by decide, klL_13, Or.inl rfl, Or.inl ⟨5, dL_spoil_22, by decide, ?_⟩⟩
    show TT l D _ _ 0 0 24 [] [] h
    refine tw_iconst (pc := 24) dL_spoil_24 (by decide) (fun k9 hk9 => ?_)
    exact tt_stop (Or.inr (Or.inl ⟨k9, dL_spoil_25, rfl, Or.inl rfl, Or.inr ⟨k9, rfl, hk9, rfl, c⟩⟩))
set_option maxHeartbeats 2000000 in
theorem g_L_inject {l : Launch} {D : va_G} {N : Nat} {pk : Int} {τ : List Nat} (hl0 : l.stackTraces = false) (hN2 : 2 ≤ N) (hN8 : N ≤ 8) (hp0 : 0 ≤ pk) (hp64 : pk ≤ 64) {h : List tC} (hw : WT N pk τ h) (a0 : Nat) (ta0 : τ[a0]? = some 6) (a1 : Int32) (a2 : Int32) (a3 : Int32) (ko : Nat) (cc0 : Int32) (eo : h[ko]? = some (.inl (9, [cc0]))) (to : τ[ko]? = some 29) : THc l D yL_inject cL_inject 6 (some .int) [(0, 12, 15, 13), (0, 12, 19, 15)] 7 146 2 11 [.inr (some a0), .inl a1, .inl a2, .inl a3, .inr (some ko)] h (fun rv h' => (∃ k : Int32, rv = some (.inl k) ∧ k.toInt = 0 ∧ ∃ (rv0 : Option tV) (h1 : List tC) (y : Int32), (fun rv h' => (∃ τ1 : List Nat, tPre τ τ1 ∧ WT N (pk + 1) τ1 h' ∧ Fr PXi τ h h') ∧ (∃ x : Int32, rv = some (.inl x) ∧ x.toInt = pk) ∧ (0 ≤ a1.toInt ∧ a1.toInt ≤ (N : Int) - 1 ∧ 0 ≤ a2.toInt ∧ a2.toInt ≤ 7) ∧ 0 ≤ a3.toInt ∧ a3.toInt ≤ 60 ∧ pk < 64) rv0 h1 ∧ h' = h1.set ko (.inl (9, [y])) ∧ rv0 = some (.inl y)) ∨ (∃ k : Int32, rv = some (.inl k) ∧ k.toInt = 1 ∧ h' = h ∧ ¬ (0 ≤ a1.toInt ∧ a1.toInt ≤ (N : Int) - 1 ∧ 0 ≤ a2.toInt ∧ a2.toInt ≤ 7)) ∨ (∃ k : Int32, rv = some (.inl k) ∧ k.toInt = 2 ∧ h' = h ∧ (0 ≤ a1.toInt ∧ a1.toInt ≤ (N : Int) - 1 ∧ 0 ≤ a2.toInt ∧ a2.toInt ≤ 7) ∧ (a3.toInt < 0 ∨ 60 < a3.toInt ∨ 64 ≤ pk))) := by
  obtain ⟨fs0, e0, -⟩ := wt_obj hw ta0 (by decide)
  obtain ⟨z0, hz0⟩ : ∃ z : Int32, z = Int32.ofInt 0 := ⟨_, rfl⟩
  have hz1 : z0.toInt = 0 := by rw [hz0]; decide
  refine thc_of (F := 7) (L := 146) (cp := 7) (ci := 6) (a := a0) (as2 := [.inl a1, .inl a2, .inl a3]) (stR := [.inl z0, .inr (some ko)]) (locC := [(0, .inr (some a0)), (1, .inl a1), (2, .inl a2), (3, .inl a3), (4, .inr (some ko))]) (mc2 := 2) (ms2 := 11) (kc2 := 0) (ks2 := 0) rfl rfl (Nat.le_of_ble_eq_true rfl) ?_ dL_inject_7 lkL_37 imX6_inject seX6_inject rfl e0 rfl (by decide) (by decide) (Nat.le_of_ble_eq_true rfl) (g_X6_inject hl0 hN2 hN8 hp0 hp64 hw a0 ta0 a1 a2 a3) rfl rfl ?_ ?_
  · show TT l D _ _ 0 0 0 [(0, .inr (some a0)), (1, .inl a1), (2, .inl a2), (3, .inl a3), (4, .inr (some ko))] [] h
    refine tt_aload (pc := 0) dL_inject_0 (.tail _ (.tail _ (.tail _ (.tail _ (.head _))))) ?_
    refine tt_iconst (pc := 2) dL_inject_2 ?_
    rw [← hz0]
    refine tt_aload_n (pc := 3) dL_inject_3 (.head _) ?_
    refine tt_iload_n (pc := 4) dL_inject_4 (.tail _ (.head _)) ?_
    refine tt_iload_n (pc := 5) dL_inject_5 (.tail _ (.tail _ (.head _))) ?_
    refine tt_iload_n (pc := 6) dL_inject_6 (.tail _ (.tail _ (.tail _ (.head _)))) ?_
    exact tt_stop ⟨rfl, rfl, rfl, rfl⟩
  · intro rv h' hq
    obtain ⟨⟨τ1, t1, w1, f1⟩, ⟨x9, rfl, ex9⟩, p1⟩ := id hq
    have eo' : h'[ko]? = some (.inl (9, [cc0])) := by rw [fr_k29 f1 (fun j => rfl) to (t_at eo)]; exact eo
    show TT l D _ _ 0 0 10 [(0, .inr (some a0)), (1, .inl a1), (2, .inl a2), (3, .inl a3), (4, .inr (some ko))] [.inl x9, .inl z0, .inr (some ko)] h'
    have eset : ∀ y : Int32, ([cc0] : List Int32).set z0.toNatClampNeg y = [y] := fun y => by rw [i_ix (i := 0) (by rw [hz1]; rfl)]; rfl
    refine tt_i2lst (pc := 10) dL_inject_10 dL_inject_11 eo' (i_nn (by omega)) (by show z0.toInt.toNat < 1; omega) ?_
    rw [eset]
    refine tt_goto (tgt := 23) (pc := 12) dL_inject_12 (by decide) ?_
    refine tw_iconst (pc := 23) dL_inject_23 (by decide) (fun k9 hk9 => ?_)
    exact tt_stop (Or.inr (Or.inl ⟨k9, dL_inject_24, rfl, Or.inl rfl, Or.inl ⟨k9, rfl, hk9, _, _, x9, hq, rfl, rfl⟩⟩))
  · intro E hq
    rcases hq with ⟨rfl, c⟩ | ⟨rfl, c⟩
    · refine ⟨[], ⟨0, 12, 15, 13⟩, [⟨0, 12, 19, 15⟩], rfl, (fun z hz => nomatch hz), by decide, by decide, klL_13, Or.inl rfl, Or.inl ⟨5, dL_inject_15, by decide, ?_⟩⟩
      show TT l D _ _ 0 0 17 [] [] h
      refine tw_iconst (pc := 17) dL_inject_17 (by decide) (fun k9 hk9 => ?_)
      exact tt_stop (Or.inr (Or.inl ⟨k9, dL_inject_18, rfl, Or.inl rfl, Or.inr (Or.inl ⟨k9, rfl, hk9, rfl, c⟩)⟩))
    · refine ⟨[⟨0, 12, 15, 13⟩], ⟨0, 12, 19, 15⟩, [], rfl, (fun z hz => by rw [List.mem_singleton.mp hz]; exact ⟨by decide, klL_13, rfl⟩), by decide, by decide, klL_15, Or.inr rfl, Or.inl ⟨5, dL_inject_19, by decide, ?_⟩⟩
      show TT l D _ _ 0 0 21 [] [] h
      refine tw_iconst (pc := 21) dL_inject_21 (by decide) (fun k9 hk9 => ?_)
      exact tt_stop (Or.inr (Or.inl ⟨k9, dL_inject_22, rfl, Or.inl rfl, Or.inr (Or.inr ⟨k9, rfl, hk9, rfl, c⟩)⟩))
