set_option maxHeartbeats 4000000 in
theorem g_X7_shortenE {l : Launch} {D : va_G} {N : Nat} {pk : Int} {τ : List Nat} (hN2 : 2 ≤ N) (hN8 : N ≤ 8) (hp0 : 0 ≤ pk) (hp64 : pk ≤ 64) {h : List tC} (hw : WT N pk τ h) (a0 : Nat) (ta0 : τ[a0]? = some 7) (a1 : Int32) (la1 : 0 ≤ a1.toInt) (ua1 : a1.toInt ≤ 7) (a2 : Int32) (la2 : 0 ≤ a2.toInt) (ua2 : a2.toInt ≤ 7) (a3 : Int32) {F : Nat → Nat → Int} (hF : FV τ h F) : TMc l D yX7_shorten cX7_shorten 4 none 0 0 0 0 [.inr (some a0), .inl a1, .inl a2, .inl a3] h (fun rv h' => WT N pk τ h' ∧ Fr (PEX 60) τ h h' ∧ rv = none ∧ ∃ G : Nat → Nat → Int, FV τ h' G ∧ ∀ a b, a < 8 → b < 8 → G a b = if a = a1.toInt.toNat ∧ b = a2.toInt.toNat then min (F a b) a3.toInt else F a b) := by
  refine tmc_of false rfl (by decide) (Nat.le_of_ble_eq_true rfl) ?_
  suffices HQ : ∀ Q0, Q0 = tRt cX7_shorten none (fun rv h' => WT N pk τ h' ∧ Fr (PEX 60) τ h h' ∧ rv = none ∧ ∃ G : Nat → Nat → Int, FV τ h' G ∧ ∀ a b, a < 8 → b < 8 → G a b = if a = a1.toInt.toNat ∧ b = a2.toInt.toNat then min (F a b) a3.toInt else F a b) → TT l D mX7_shorten Q0 0 0 0 [(0, .inr (some a0)), (1, .inl a1), (2, .inl a2), (3, .inl a3)] [] h from HQ _ rfl
  intro Q0 hQ
  have hf : Fr (PEX 60) τ h h := Fr.rf
  have ba3 := i_ty a3
  refine tt_iload_n (pc := 0) dX7_shorten_0 (.tail _ (.tail _ (.tail _ (.head _)))) ?_
  refine tt_aload_n (pc := 1) dX7_shorten_1 (.head _) ?_
  refine tw_getr (pc := 2) dX7_shorten_2 flX7_89 hw ta0 (by decide) rfl (fun f17 q18 ef17 gf17 tq18 => ?_)
  refine tw_bipush (pc := 5) dX7_shorten_5 (by decide) (fun x19 ex19 => ?_)
  refine tt_iload_n (pc := 7) dX7_shorten_7 (.tail _ (.head _)) ?_
  refine tw_imul (c := 8) (pc := 8) dX7_shorten_8 (by omega) (by omega) (fun x20 ex20 => ?_)
  refine tt_iload_n (pc := 9) dX7_shorten_9 (.tail _ (.tail _ (.head _))) ?_
  refine tw_iadd (pc := 10) dX7_shorten_10 (by omega) (fun x21 ex21 => ?_)
  refine tw_ild (pc := 11) dX7_shorten_11 hw tq18 rfl (by omega) (by omega) (fun f23 x22 ef23 gf23 lx22 ux22 => ?_)
  refine tw_icmp (tgt := 27) (pc := 12) dX7_shorten_12 (by decide) (fun (c24 : x22.toInt ≤ a3.toInt) => ?_) (fun (c24 : ¬ (x22.toInt ≤ a3.toInt)) => ?_)
  · skip
    refine tt_stop ?_
    rw [hQ]
    have fa := fv_at hw.2.2.2 hF tq18 ef23 (a := a1.toInt.toNat) (b := a2.toInt.toNat) (by omega) (by omega) (by show x21.toInt.toNat = _; omega) gf23
    exact Or.inl ⟨dX7_shorten_27, rfl, rfl, hw, hf, rfl, F, hF, fun a b ha hb => by
      split
      · rename_i y
        obtain ⟨rfl, rfl⟩ := y
        omega
      · rfl⟩
  · skip
    refine tt_aload_n (pc := 15) dX7_shorten_15 (.head _) ?_
    refine tt_get (pc := 16) dX7_shorten_16 flX7_89 ef17 gf17 ?_
    refine tw_bipush (pc := 19) dX7_shorten_19 (by decide) (fun x25 ex25 => ?_)
    refine tt_iload_n (pc := 21) dX7_shorten_21 (.tail _ (.head _)) ?_
    refine tw_imul (c := 8) (pc := 22) dX7_shorten_22 (by omega) (by omega) (fun x26 ex26 => ?_)
    refine tt_iload_n (pc := 23) dX7_shorten_23 (.tail _ (.tail _ (.head _))) ?_
    refine tw_iadd (pc := 24) dX7_shorten_24 (by omega) (fun x27 ex27 => ?_)
    refine tt_iload_n (pc := 25) dX7_shorten_25 (.tail _ (.tail _ (.tail _ (.head _)))) ?_
    refine tw_ist (P := (PEX 60)) (pc := 26) dX7_shorten_26 hw tq18 rfl (by omega) (by omega) (by omega) (by omega) (by decide) (fun f28 h29 eh29 gh29 kh29 wh29 fh29 => ?_)
    have hfh29 := hf.tr (fh29.weak (weak_PEX (fun _ => rfl)))
    obtain ⟨f30, E31, G32⟩ := fr_fld fh29 ta0 (by decide) ef17 gf17
    refine tt_stop ?_
    rw [hQ]
    have fa := fv_at hw.2.2.2 hF tq18 ef23 (a := a1.toInt.toNat) (b := a2.toInt.toNat) (by omega) (by omega) (by show x21.toInt.toNat = _; omega) gf23
    have fs := fv_set hw.2.2.2 hF tq18 eh29 (p := a1.toInt.toNat) (q := a2.toInt.toNat) (by omega) (by omega) (by show x27.toInt.toNat = _; omega) gh29
    exact Or.inl ⟨dX7_shorten_27, rfl, rfl, wh29, hfh29, rfl, _, fs, fun a b ha hb => by
      show (if a = a1.toInt.toNat ∧ b = a2.toInt.toNat then _ else _) = _
      split
      · rename_i y
        obtain ⟨rfl, rfl⟩ := y
        omega
      · rfl⟩
set_option maxHeartbeats 4000000 in
theorem g_X7_measureE {l : Launch} {D : va_G} {N : Nat} {pk : Int} {τ : List Nat} (hN2 : 2 ≤ N) (hN8 : N ≤ 8) (hp0 : 0 ≤ pk) (hp64 : pk ≤ 64) {h : List tC} (hw : WT N pk τ h) (a0 : Nat) (ta0 : τ[a0]? = some 7) (a1 : Int32) (la1 : 0 ≤ a1.toInt) (ua1 : a1.toInt ≤ 7) : TMc l D yX7_measure cX7_measure 5 none 1 23 0 0 [.inr (some a0), .inl a1] h (fun rv h' => WT N pk τ h' ∧ Fr (PEX 60) τ h h' ∧ rv = none ∧ ∃ F : Nat → Nat → Int, FV τ h' F ∧ fwI N (EE τ h a1.toInt.toNat) F ∧ fwT N N F ∧ fwL (EE τ h a1.toInt.toNat) F) := by
  refine tmc_of false rfl (by decide) (Nat.le_of_ble_eq_true rfl) ?_
  suffices HQ : ∀ Q0, Q0 = tRt cX7_measure none (fun rv h' => WT N pk τ h' ∧ Fr (PEX 60) τ h h' ∧ rv = none ∧ ∃ F : Nat → Nat → Int, FV τ h' F ∧ fwI N (EE τ h a1.toInt.toNat) F ∧ fwT N N F ∧ fwL (EE τ h a1.toInt.toNat) F) → TT l D mX7_measure Q0 0 0 0 [(0, .inr (some a0)), (1, .inl a1)] [] h from HQ _ rfl
  intro Q0 hQ
  have hf : Fr (PEX 60) τ h h := Fr.rf
  have B102 : ∀ (n102 : Nat) (hb : List tC) (hwb : WT N pk τ hb) (hfb : Fr (PEX 60) τ h hb) (x978 : Int32) (lx978 : 0 ≤ x978.toInt) (ux978 : x978.toInt ≤ 8) (F4 : Nat → Nat → Int) (hF4 : FV τ hb F4) (iI4 : fwI N (EE τ h a1.toInt.toNat) F4) (iT4 : fwT N x978.toInt.toNat F4) (iL4 : fwL (EE τ h a1.toInt.toNat) F4), 8 - x978.toInt < n102 → TT l D mX7_measure Q0 0 0 102 [(0, .inr (some a0)), (2, .inl x978)] [] hb := by
    intro n102
    induction n102 with
    | zero =>
      intro hb hwb hfb x978 lx978 ux978 F4 hF4 iI4 iT4 iL4 hn102
      exfalso
      omega
    | succ n102 ih102 =>
      intro hb hwb hfb x978 lx978 ux978 F4 hF4 iI4 iT4 iL4 hn102
      have B112 : ∀ (n112 : Nat) (hb : List tC) (hwb : WT N pk τ hb) (hfb : Fr (PEX 60) τ h hb) (x979 : Int32) (lx979 : 0 ≤ x979.toInt) (ux979 : x979.toInt ≤ 7) (x980 : Int32) (lx980 : 0 ≤ x980.toInt) (ux980 : x980.toInt ≤ 8) (B5 F5 : Nat → Nat → Int) (hF5 : FV τ hb F5) (iI5 : fwI N (EE τ h a1.toInt.toNat) B5) (iT5 : fwT N x979.toInt.toNat B5) (iL5 : fwL (EE τ h a1.toInt.toNat) B5) (ig5 : ∀ a b, a < N → b < N → F5 a b = if (a : Int) < x980.toInt then min (B5 a b) (B5 a x979.toInt.toNat + B5 x979.toInt.toNat b) else B5 a b) (hm5 : x979.toInt < (N : Int)) (hn102 : 8 - x979.toInt < ((n102 + 1 : Nat) : Int)), 8 - x980.toInt < n112 → TT l D mX7_measure Q0 0 0 112 [(0, .inr (some a0)), (2, .inl x979), (3, .inl x980)] [] hb := by
        intro n112
        induction n112 with
        | zero =>
          intro hb hwb hfb x979 lx979 ux979 x980 lx980 ux980 B5 F5 hF5 iI5 iT5 iL5 ig5 hm5 hn102 hn112
          exfalso
          omega
        | succ n112 ih112 =>
          intro hb hwb hfb x979 lx979 ux979 x980 lx980 ux980 B5 F5 hF5 iI5 iT5 iL5 ig5 hm5 hn102 hn112
          have B123 : ∀ (n123 : Nat) (hb : List tC) (hwb : WT N pk τ hb) (hfb : Fr (PEX 60) τ h hb) (x981 : Int32) (lx981 : 0 ≤ x981.toInt) (ux981 : x981.toInt ≤ 7) (x982 : Int32) (lx982 : 0 ≤ x982.toInt) (ux982 : x982.toInt ≤ 7) (x983 : Int32) (lx983 : 0 ≤ x983.toInt) (ux983 : x983.toInt ≤ 8) (B6 F6 : Nat → Nat → Int) (hF6 : FV τ hb F6) (iI6 : fwI N (EE τ h a1.toInt.toNat) B6) (iT6 : fwT N x981.toInt.toNat B6) (iL6 : fwL (EE τ h a1.toInt.toNat) B6) (ig6 : ∀ a b, a < N → b < N → F6 a b = if (a : Int) < x982.toInt ∨ ((a : Int) = x982.toInt ∧ (b : Int) < x983.toInt) then min (B6 a b) (B6 a x981.toInt.toNat + B6 x981.toInt.toNat b) else B6 a b) (hm6 : x981.toInt < (N : Int) ∧ x982.toInt < (N : Int)) (hn102 : 8 - x981.toInt < ((n102 + 1 : Nat) : Int)) (hn112 : 8 - x982.toInt < ((n112 + 1 : Nat) : Int)), 8 - x983.toInt < n123 → TT l D mX7_measure Q0 0 0 123 [(0, .inr (some a0)), (2, .inl x981), (3, .inl x982), (4, .inl x983)] [] hb := by
            intro n123
            induction n123 with
            | zero =>
              intro hb hwb hfb x981 lx981 ux981 x982 lx982 ux982 x983 lx983 ux983 B6 F6 hF6 iI6 iT6 iL6 ig6 hm6 hn102 hn112 hn123
              exfalso
              omega
            | succ n123 ih123 =>
              intro hb hwb hfb x981 lx981 ux981 x982 lx982 ux982 x983 lx983 ux983 B6 F6 hF6 iI6 iT6 iL6 ig6 hm6 hn102 hn112 hn123
              refine tt_iload (pc := 123) dX7_measure_123 (.tail _ (.tail _ (.tail _ (.head _)))) ?_
              refine tt_aload_n (pc := 125) dX7_measure_125 (.head _) ?_
              refine tw_geti (pc := 126) dX7_measure_126 flX7_92 hwb ta0 (by decide) rfl (fun f984 x985 ef984 gf984 lx985 ux985 => ?_)
              refine tw_icmp (tgt := 169) (pc := 129) dX7_measure_129 (by decide) (fun (c986 : x985.toInt ≤ x983.toInt) => ?_) (fun (c986 : ¬ (x985.toInt ≤ x983.toInt)) => ?_)
              · skip
                refine tw_iinc (pc := 169) dX7_measure_169 (.tail _ (.tail _ (.head _))) (by decide) (by decide) (by omega) (fun x987 ex987 => ?_)
                show TT _ _ _ _ _ _ _ [(3, .inl x987), (0, .inr (some a0)), (2, .inl x981), (4, .inl x983)] _ _
                refine tt_goto (tgt := 112) (pc := 172) dX7_measure_172 (by decide) ?_
                refine tt_loc [(0, .inr (some a0)), (2, .inl x981), (3, .inl x987)] (List.forall_mem_cons.mpr ⟨(.tail _ (.head _)), List.forall_mem_cons.mpr ⟨(.tail _ (.tail _ (.head _))), List.forall_mem_cons.mpr ⟨(.head _), fun _ z => absurd z List.not_mem_nil⟩⟩⟩) ?_
                exact ih112 hb hwb hfb x981 (by omega) (by omega) x987 (by omega) (by omega) B6 F6 hF6 iI6 iT6 iL6 (fun a b ha hb => by
  rw [ig6 a b ha hb]
  by_cases y : (a : Int) < x987.toInt
  · rw [if_pos (by omega), if_pos y]
  · rw [if_neg (by omega), if_neg y]) (by omega) (by omega) (by omega)
              · skip
                refine tt_aload_n (pc := 132) dX7_measure_132 (.head _) ?_
                refine tt_iload_n (pc := 133) dX7_measure_133 (.tail _ (.tail _ (.head _))) ?_
                refine tt_iload (pc := 134) dX7_measure_134 (.tail _ (.tail _ (.tail _ (.head _)))) ?_
                refine tt_aload_n (pc := 136) dX7_measure_136 (.head _) ?_
                refine tw_getr (pc := 137) dX7_measure_137 flX7_89 hwb ta0 (by decide) rfl (fun f988 q989 ef988 gf988 tq989 => ?_)
                refine tw_bipush (pc := 140) dX7_measure_140 (by decide) (fun x990 ex990 => ?_)
                refine tt_iload_n (pc := 142) dX7_measure_142 (.tail _ (.tail _ (.head _))) ?_
                refine tw_imul (c := 8) (pc := 143) dX7_measure_143 (by omega) (by omega) (fun x991 ex991 => ?_)
                refine tt_iload_n (pc := 144) dX7_measure_144 (.tail _ (.head _)) ?_
                refine tw_iadd (pc := 145) dX7_measure_145 (by omega) (fun x992 ex992 => ?_)
                refine tw_ild (pc := 146) dX7_measure_146 hwb tq989 rfl (by omega) (by omega) (fun f994 x993 ef994 gf994 lx993 ux993 => ?_)
                refine tt_aload_n (pc := 147) dX7_measure_147 (.head _) ?_
                refine tt_get (pc := 148) dX7_measure_148 flX7_89 ef988 gf988 ?_
                refine tw_bipush (pc := 151) dX7_measure_151 (by decide) (fun x995 ex995 => ?_)
                refine tt_iload_n (pc := 153) dX7_measure_153 (.tail _ (.head _)) ?_
                refine tw_imul (c := 8) (pc := 154) dX7_measure_154 (by omega) (by omega) (fun x996 ex996 => ?_)
                refine tt_iload (pc := 155) dX7_measure_155 (.tail _ (.tail _ (.tail _ (.head _)))) ?_
                refine tw_iadd (pc := 157) dX7_measure_157 (by omega) (fun x997 ex997 => ?_)
                refine tw_ild (pc := 158) dX7_measure_158 hwb tq989 rfl (by omega) (by omega) (fun f999 x998 ef999 gf999 lx998 ux998 => ?_)
                have v1 := fv_at hwb.2.2.2 hF6 tq989 ef994 (a := x982.toInt.toNat) (b := x981.toInt.toNat) (by omega) (by omega) (by show x992.toInt.toNat = _; omega) gf994
                have v2 := fv_at hwb.2.2.2 hF6 tq989 ef999 (a := x981.toInt.toNat) (b := x983.toInt.toNat) (by omega) (by omega) (by show x997.toInt.toNat = _; omega) gf999
                have z0 := iI6.2.1 x981.toInt.toNat (by omega)
                have z1 := iI6.1 x982.toInt.toNat x981.toInt.toNat (by omega) (by omega)
                have z2 := iI6.1 x981.toInt.toNat x983.toInt.toNat (by omega) (by omega)
                have w1 : F6 x982.toInt.toNat x981.toInt.toNat = B6 x982.toInt.toNat x981.toInt.toNat := by
                  rw [ig6 _ _ (by omega) (by omega)]
                  split <;> omega
                have w2 : F6 x981.toInt.toNat x983.toInt.toNat = B6 x981.toInt.toNat x983.toInt.toNat := by
                  rw [ig6 _ _ (by omega) (by omega)]
                  split <;> omega
                refine tw_iadd (pc := 159) dX7_measure_159 (by omega) (fun x1000 ex1000 => ?_)
                refine tw_callV (kc := 0) (ks := 0) (mc := 0) (ms := 0) (as := [.inl x982, .inl x983, .inl x1000]) (st := []) (pc := 160) hwb ta0 (by decide) dX7_measure_160 lkX7_128 imX7_shorten seX7_shorten rfl rfl (by decide) (by decide) (Nat.le_of_ble_eq_true rfl) (g_X7_shortenE hN2 hN8 hp0 hp64 hwb a0 ta0 x982 (by omega) (by omega) x983 (by omega) (by omega) x1000 hF6) (fun rv h1001 qh1001 => ?_)
                obtain ⟨wh1001, fh1001, rfl, Gh1001, hGh1001, eGh1001⟩ := qh1001
                have hfh1001 := hfb.tr fh1001
                show TT _ _ _ _ _ _ _ _ [] _
                refine tw_iinc (pc := 163) dX7_measure_163 (.tail _ (.tail _ (.tail _ (.head _)))) (by decide) (by decide) (by omega) (fun x1002 ex1002 => ?_)
                show TT _ _ _ _ _ _ _ [(4, .inl x1002), (0, .inr (some a0)), (2, .inl x981), (3, .inl x982)] _ _
                refine tt_goto (tgt := 123) (pc := 166) dX7_measure_166 (by decide) ?_
                have zz := iI6.2.1 x981.toInt.toNat (by omega)
                have n1 := iI6.1 x982.toInt.toNat x981.toInt.toNat (by omega) (by omega)
                have n2 := iI6.1 x981.toInt.toNat x983.toInt.toNat (by omega) (by omega)
                refine tt_loc [(0, .inr (some a0)), (2, .inl x981), (3, .inl x982), (4, .inl x1002)] (List.forall_mem_cons.mpr ⟨(.tail _ (.head _)), List.forall_mem_cons.mpr ⟨(.tail _ (.tail _ (.head _))), List.forall_mem_cons.mpr ⟨(.tail _ (.tail _ (.tail _ (.head _)))), List.forall_mem_cons.mpr ⟨(.head _), fun _ z => absurd z List.not_mem_nil⟩⟩⟩⟩) ?_
                exact ih123 h1001 wh1001 hfh1001 x981 (by omega) (by omega) x982 (by omega) (by omega) x1002 (by omega) (by omega) B6 Gh1001 hGh1001 iI6 iT6 iL6 (fun a9 b9 ha hb => by
  rw [eGh1001 a9 b9 (by omega) (by omega), ig6 a9 b9 ha hb]
  by_cases y : a9 = x982.toInt.toNat ∧ b9 = x983.toInt.toNat
  · obtain ⟨rfl, rfl⟩ := y
    rw [if_pos ⟨rfl, rfl⟩, if_neg (by omega), if_pos (by omega)]
    omega
  · rw [if_neg y]
    by_cases u : (a9 : Int) < x982.toInt ∨ ((a9 : Int) = x982.toInt ∧ (b9 : Int) < x983.toInt)
    · rw [if_pos u, if_pos (by omega)]
    · rw [if_neg u, if_neg (by omega)]) hm6 (by omega) (by omega) (by omega)
          refine tt_iload_n (pc := 112) dX7_measure_112 (.tail _ (.tail _ (.head _))) ?_
          refine tt_aload_n (pc := 113) dX7_measure_113 (.head _) ?_
          refine tw_geti (pc := 114) dX7_measure_114 flX7_92 hwb ta0 (by decide) rfl (fun f1003 x1004 ef1003 gf1003 lx1004 ux1004 => ?_)
          refine tw_icmp (tgt := 175) (pc := 117) dX7_measure_117 (by decide) (fun (c1005 : x1004.toInt ≤ x980.toInt) => ?_) (fun (c1005 : ¬ (x1004.toInt ≤ x980.toInt)) => ?_)
          · skip
            refine tw_iinc (pc := 175) dX7_measure_175 (.tail _ (.head _)) (by decide) (by decide) (by omega) (fun x1006 ex1006 => ?_)
            show TT _ _ _ _ _ _ _ [(2, .inl x1006), (0, .inr (some a0)), (3, .inl x980)] _ _
            refine tt_goto (tgt := 102) (pc := 178) dX7_measure_178 (by decide) ?_
            obtain ⟨jI, jT, jL⟩ := fw_phase (G := F5) (m := x979.toInt.toNat) (by omega) iI5 iT5 iL5 (fun a o c e => ee_n hw hN2 _ a o c e) (fun a b ha hb => by rw [ig5 a b ha hb, if_pos (by omega)])
            refine tt_loc [(0, .inr (some a0)), (2, .inl x1006)] (List.forall_mem_cons.mpr ⟨(.tail _ (.head _)), List.forall_mem_cons.mpr ⟨(.head _), fun _ z => absurd z List.not_mem_nil⟩⟩) ?_
            exact ih102 hb hwb hfb x1006 (by omega) (by omega) F5 hF5 jI (by rw [show x1006.toInt.toNat = x979.toInt.toNat + 1 by omega]; exact jT) jL (by omega)
          · skip
            refine tw_iconst (pc := 120) dX7_measure_120 (by decide) (fun x1007 ex1007 => ?_)
            refine tt_istore (pc := 121) dX7_measure_121 (by decide) ?_
            show TT _ _ _ _ _ _ _ [(4, .inl x1007), (0, .inr (some a0)), (2, .inl x979), (3, .inl x980)] _ _
            refine tt_loc [(0, .inr (some a0)), (2, .inl x979), (3, .inl x980), (4, .inl x1007)] (List.forall_mem_cons.mpr ⟨(.tail _ (.head _)), List.forall_mem_cons.mpr ⟨(.tail _ (.tail _ (.head _))), List.forall_mem_cons.mpr ⟨(.tail _ (.tail _ (.tail _ (.head _)))), List.forall_mem_cons.mpr ⟨(.head _), fun _ z => absurd z List.not_mem_nil⟩⟩⟩⟩) ?_
            exact B123 9 hb hwb hfb x979 (by omega) (by omega) x980 (by omega) (by omega) x1007 (by omega) (by omega) B5 F5 hF5 iI5 iT5 iL5 (fun a b ha hb => by
  rw [ig5 a b ha hb]
  by_cases y : (a : Int) < x980.toInt
  · rw [if_pos y, if_pos (Or.inl y)]
  · rw [if_neg y, if_neg (by omega)]) ⟨by omega, by omega⟩ (by omega) (by omega) (by omega)
      refine tt_iload_n (pc := 102) dX7_measure_102 (.tail _ (.head _)) ?_
      refine tt_aload_n (pc := 103) dX7_measure_103 (.head _) ?_
      refine tw_geti (pc := 104) dX7_measure_104 flX7_92 hwb ta0 (by decide) rfl (fun f1008 x1009 ef1008 gf1008 lx1009 ux1009 => ?_)
      refine tw_icmp (tgt := 181) (pc := 107) dX7_measure_107 (by decide) (fun (c1010 : x1009.toInt ≤ x978.toInt) => ?_) (fun (c1010 : ¬ (x1009.toInt ≤ x978.toInt)) => ?_)
      · skip
        refine tt_stop ?_
        rw [hQ]
        exact Or.inl ⟨dX7_measure_181, rfl, rfl, hwb, hfb, rfl, F4, hF4, iI4, fun j a b hj ha hb => iT4 j a b (by omega) ha hb, iL4⟩
      · skip
        refine tw_iconst (pc := 110) dX7_measure_110 (by decide) (fun x1011 ex1011 => ?_)
        refine tt_istore_n (pc := 111) dX7_measure_111 (by decide) ?_
        show TT _ _ _ _ _ _ _ [(3, .inl x1011), (0, .inr (some a0)), (2, .inl x978)] _ _
        refine tt_loc [(0, .inr (some a0)), (2, .inl x978), (3, .inl x1011)] (List.forall_mem_cons.mpr ⟨(.tail _ (.head _)), List.forall_mem_cons.mpr ⟨(.tail _ (.tail _ (.head _))), List.forall_mem_cons.mpr ⟨(.head _), fun _ z => absurd z List.not_mem_nil⟩⟩⟩) ?_
        exact B112 9 hb hwb hfb x978 (by omega) (by omega) x1011 (by omega) (by omega) F4 F4 hF4 iI4 iT4 iL4 (fun a b ha hb => by rw [if_neg (by omega)]) (by omega) (by omega) (by omega)
  have B35 : ∀ (n35 : Nat) (hb : List tC) (hwb : WT N pk τ hb) (hfb : Fr (PEX 60) τ h hb) (x1012 : Int32) (lx1012 : 0 ≤ x1012.toInt) (ux1012 : x1012.toInt ≤ 12) (F3 : Nat → Nat → Int) (hF3 : FV τ hb F3) (iI3 : fwI N (EE τ h a1.toInt.toNat) F3) (iL3 : LI τ h a1.toInt.toNat x1012.toInt F3), 12 - x1012.toInt < n35 → TT l D mX7_measure Q0 0 0 35 [(0, .inr (some a0)), (1, .inl a1), (2, .inl x1012)] [] hb := by
    intro n35
    induction n35 with
    | zero =>
      intro hb hwb hfb x1012 lx1012 ux1012 F3 hF3 iI3 iL3 hn35
      exfalso
      omega
    | succ n35 ih35 =>
      intro hb hwb hfb x1012 lx1012 ux1012 F3 hF3 iI3 iL3 hn35
      refine tt_iload_n (pc := 35) dX7_measure_35 (.tail _ (.tail _ (.head _))) ?_
      refine tw_bipush (pc := 36) dX7_measure_36 (by decide) (fun x1013 ex1013 => ?_)
      refine tw_icmp (tgt := 100) (pc := 38) dX7_measure_38 (by decide) (fun (c1014 : x1013.toInt ≤ x1012.toInt) => ?_) (fun (c1014 : ¬ (x1013.toInt ≤ x1012.toInt)) => ?_)
      · skip
        refine tw_iconst (pc := 100) dX7_measure_100 (by decide) (fun x1015 ex1015 => ?_)
        refine tt_istore_n (pc := 101) dX7_measure_101 (by decide) ?_
        show TT _ _ _ _ _ _ _ [(2, .inl x1015), (0, .inr (some a0)), (1, .inl a1)] _ _
        refine tt_loc [(0, .inr (some a0)), (2, .inl x1015)] (List.forall_mem_cons.mpr ⟨(.tail _ (.head _)), List.forall_mem_cons.mpr ⟨(.head _), fun _ z => absurd z List.not_mem_nil⟩⟩) ?_
        exact B102 9 hb hwb hfb x1015 (by omega) (by omega) F3 hF3 iI3 (fun j a b hj => by exfalso; omega) (li_all (by omega) (fun l9 lo9 hi9 z1 z2 => by have := wt_lohi hw l9 lo9 hi9 z1 z2; omega) iL3) (by omega)
      · skip
        refine tt_aload_n (pc := 41) dX7_measure_41 (.head _) ?_
        refine tt_iload_n (pc := 42) dX7_measure_42 (.tail _ (.head _)) ?_
        refine tt_iload_n (pc := 43) dX7_measure_43 (.tail _ (.tail _ (.head _))) ?_
        refine tw_callV (kc := 0) (ks := 0) (mc := 0) (ms := 0) (as := [.inl a1, .inl x1012]) (st := []) (pc := 44) hwb ta0 (by decide) dX7_measure_44 lkX7_125 imX7_isStep seX7_isStep rfl rfl (by decide) (by decide) (Nat.le_of_ble_eq_true rfl) (g_X7_isStepE hN2 hN8 hp0 hp64 hwb a0 ta0 a1 (by omega) (by omega) x1012 (by omega) (by omega)) (fun rv h1016 qh1016 => ?_)
        obtain ⟨rfl, x1018, rfl, ⟨lx1018, ux1018⟩, Yx1018, Zx1018⟩ := qh1016
        show TT _ _ _ _ _ _ _ _ [.inl x1018] _
        refine tw_if (tgt := 94) (pc := 47) dX7_measure_47 (by decide) (fun (c1019 : x1018.toInt = 0) => ?_) (fun (c1019 : ¬ (x1018.toInt = 0)) => ?_)
        · skip
          refine tw_iinc (pc := 94) dX7_measure_94 (.tail _ (.tail _ (.head _))) (by decide) (by decide) (by omega) (fun x1020 ex1020 => ?_)
          show TT _ _ _ _ _ _ _ [(2, .inl x1020), (0, .inr (some a0)), (1, .inl a1)] _ _
          refine tt_goto (tgt := 35) (pc := 97) dX7_measure_97 (by decide) ?_
          refine tt_loc [(0, .inr (some a0)), (1, .inl a1), (2, .inl x1020)] (List.forall_mem_cons.mpr ⟨(.tail _ (.head _)), List.forall_mem_cons.mpr ⟨(.tail _ (.tail _ (.head _))), List.forall_mem_cons.mpr ⟨(.head _), fun _ z => absurd z List.not_mem_nil⟩⟩⟩) ?_
          exact ih35 hb hwb hfb x1020 (by omega) (by omega) F3 hF3 iI3 (li_skip iL3 (by omega) (fun l9 li lo hi hl9 hli hs => by
  have e1 : x1012 = li := Int32.toInt_inj.mp (by omega)
  subst e1
  have e2 : l9 = x1012.toInt.toNat := by omega
  subst e2
  exact Zx1018 (by omega) lo hi (hs.to hfb))) (by omega)
        · skip
          refine tt_aload_n (pc := 50) dX7_measure_50 (.head _) ?_
          refine tt_aload_n (pc := 51) dX7_measure_51 (.head _) ?_
          refine tw_getr (pc := 52) dX7_measure_52 flX7_16 hwb ta0 (by decide) rfl (fun f1021 q1022 ef1021 gf1021 tq1022 => ?_)
          refine tt_iload_n (pc := 55) dX7_measure_55 (.tail _ (.tail _ (.head _))) ?_
          refine tw_ild (pc := 56) dX7_measure_56 hwb tq1022 rfl (by omega) (by omega) (fun f1024 x1023 ef1024 gf1024 lx1023 ux1023 => ?_)
          refine tt_aload_n (pc := 57) dX7_measure_57 (.head _) ?_
          refine tw_getr (pc := 58) dX7_measure_58 flX7_20 hwb ta0 (by decide) rfl (fun f1025 q1026 ef1025 gf1025 tq1026 => ?_)
          refine tt_iload_n (pc := 61) dX7_measure_61 (.tail _ (.tail _ (.head _))) ?_
          refine tw_ild (pc := 62) dX7_measure_62 hwb tq1026 rfl (by omega) (by omega) (fun f1028 x1027 ef1028 gf1028 lx1027 ux1027 => ?_)
          refine tt_aload_n (pc := 63) dX7_measure_63 (.head _) ?_
          refine tw_getr (pc := 64) dX7_measure_64 flX7_23 hwb ta0 (by decide) rfl (fun f1029 q1030 ef1029 gf1029 tq1030 => ?_)
          refine tt_iload_n (pc := 67) dX7_measure_67 (.tail _ (.tail _ (.head _))) ?_
          refine tw_ild (pc := 68) dX7_measure_68 hwb tq1030 rfl (by omega) (by omega) (fun f1032 x1031 ef1032 gf1032 lx1031 ux1031 => ?_)
          refine tw_callV (kc := 0) (ks := 0) (mc := 0) (ms := 0) (as := [.inl x1023, .inl x1027, .inl x1031]) (st := []) (pc := 69) hwb ta0 (by decide) dX7_measure_69 lkX7_128 imX7_shorten seX7_shorten rfl rfl (by decide) (by decide) (Nat.le_of_ble_eq_true rfl) (g_X7_shortenE hN2 hN8 hp0 hp64 hwb a0 ta0 x1023 (by omega) (by omega) x1027 (by omega) (by omega) x1031 hF3) (fun rv h1033 qh1033 => ?_)
          obtain ⟨wh1033, fh1033, rfl, Gh1033, hGh1033, eGh1033⟩ := qh1033
          have hfh1033 := hfb.tr fh1033
          show TT _ _ _ _ _ _ _ _ [] _
          refine tt_aload_n (pc := 72) dX7_measure_72 (.head _) ?_
          refine tt_aload_n (pc := 73) dX7_measure_73 (.head _) ?_
          refine tw_getr (pc := 74) dX7_measure_74 flX7_20 wh1033 ta0 (by decide) rfl (fun f1034 q1035 ef1034 gf1034 tq1035 => ?_)
          refine tt_iload_n (pc := 77) dX7_measure_77 (.tail _ (.tail _ (.head _))) ?_
          refine tw_ild (pc := 78) dX7_measure_78 wh1033 tq1035 rfl (by omega) (by omega) (fun f1037 x1036 ef1037 gf1037 lx1036 ux1036 => ?_)
          refine tt_aload_n (pc := 79) dX7_measure_79 (.head _) ?_
          refine tw_getr (pc := 80) dX7_measure_80 flX7_16 wh1033 ta0 (by decide) rfl (fun f1038 q1039 ef1038 gf1038 tq1039 => ?_)
          refine tt_iload_n (pc := 83) dX7_measure_83 (.tail _ (.tail _ (.head _))) ?_
          refine tw_ild (pc := 84) dX7_measure_84 wh1033 tq1039 rfl (by omega) (by omega) (fun f1041 x1040 ef1041 gf1041 lx1040 ux1040 => ?_)
          refine tt_aload_n (pc := 85) dX7_measure_85 (.head _) ?_
          refine tw_getr (pc := 86) dX7_measure_86 flX7_23 wh1033 ta0 (by decide) rfl (fun f1042 q1043 ef1042 gf1042 tq1043 => ?_)
          refine tt_iload_n (pc := 89) dX7_measure_89 (.tail _ (.tail _ (.head _))) ?_
          refine tw_ild (pc := 90) dX7_measure_90 wh1033 tq1043 rfl (by omega) (by omega) (fun f1045 x1044 ef1045 gf1045 lx1044 ux1044 => ?_)
          refine tw_callV (kc := 0) (ks := 0) (mc := 0) (ms := 0) (as := [.inl x1036, .inl x1040, .inl x1044]) (st := []) (pc := 91) wh1033 ta0 (by decide) dX7_measure_91 lkX7_128 imX7_shorten seX7_shorten rfl rfl (by decide) (by decide) (Nat.le_of_ble_eq_true rfl) (g_X7_shortenE hN2 hN8 hp0 hp64 wh1033 a0 ta0 x1036 (by omega) (by omega) x1040 (by omega) (by omega) x1044 hGh1033) (fun rv h1046 qh1046 => ?_)
          obtain ⟨wh1046, fh1046, rfl, Gh1046, hGh1046, eGh1046⟩ := qh1046
          have hfh1046 := hfh1033.tr fh1046
          show TT _ _ _ _ _ _ _ _ [] _
          refine tw_iinc (pc := 94) dX7_measure_94 (.tail _ (.tail _ (.head _))) (by decide) (by decide) (by omega) (fun x1047 ex1047 => ?_)
          show TT _ _ _ _ _ _ _ [(2, .inl x1047), (0, .inr (some a0)), (1, .inl a1)] _ _
          refine tt_goto (tgt := 35) (pc := 97) dX7_measure_97 (by decide) ?_
          obtain ⟨slo, shi, sS⟩ := Yx1018 (by omega)
          have sS0 := sS.back hfb
          have A1 : ARV τ h 34 x1012.toInt.toNat x1023 := ARV.back hfb (by decide) ⟨q1022, _, _, tq1022, ef1024, gf1024⟩
          have A2 : ARV τ h 35 x1012.toInt.toNat x1027 := ARV.back hfb (by decide) ⟨q1026, _, _, tq1026, ef1028, gf1028⟩
          have A3 : ARV τ h 36 x1012.toInt.toNat x1031 := ARV.back hfb (by decide) ⟨q1030, _, _, tq1030, ef1032, gf1032⟩
          have q1 := arv_is hw.2.2.2 (by decide) A1 tq1039 (fr_arrB hfh1033 tq1039 (by decide) ef1041) gf1041 rfl
          have q2 := arv_is hw.2.2.2 (by decide) A2 tq1035 (fr_arrB hfh1033 tq1035 (by decide) ef1037) gf1037 rfl
          have q3 := arv_is hw.2.2.2 (by decide) A3 tq1043 (fr_arrB hfh1033 tq1043 (by decide) ef1045) gf1045 rfl
          rw [q1, q2, q3] at eGh1046
          have sSx : STEP τ h a1.toInt.toNat x1012.toInt.toNat x1012 x1023 x1027 := by
            obtain ⟨ld, k1, k2, s1, s2, s3, s4, s5, s6, s7, s8⟩ := sS0
            have y1 := ARV.uq hw.2.2.2 (by decide) s3 A1
            have y2 := ARV.uq hw.2.2.2 (by decide) s4 A2
            subst y1; subst y2
            exact ⟨ld, k1, k2, s1, s2, s3, s4, s5, s6, s7, s8⟩
          have e12 : (EE τ h a1.toInt.toNat) x1023.toInt.toNat x1027.toInt.toNat x1031.toInt := ⟨x1012.toInt.toNat, x1012, _, _, _, by omega, by omega, sSx, A3, rfl, Or.inl ⟨by omega, by omega⟩⟩
          have e21 : (EE τ h a1.toInt.toNat) x1027.toInt.toNat x1023.toInt.toNat x1031.toInt := ⟨x1012.toInt.toNat, x1012, _, _, _, by omega, by omega, sSx, A3, rfl, Or.inr ⟨by omega, by omega⟩⟩
          obtain ⟨iB, dB, m1, m2⟩ := fw_both (G := Gh1033) (H := Gh1046) iI3 (by omega) (by omega) (by omega) e12 e21 (fun a b ha hb => eGh1033 a b (by omega) (by omega)) (fun a b ha hb => eGh1046 a b (by omega) (by omega))
          refine tt_loc [(0, .inr (some a0)), (1, .inl a1), (2, .inl x1047)] (List.forall_mem_cons.mpr ⟨(.tail _ (.head _)), List.forall_mem_cons.mpr ⟨(.tail _ (.tail _ (.head _))), List.forall_mem_cons.mpr ⟨(.head _), fun _ z => absurd z List.not_mem_nil⟩⟩⟩) ?_
          exact ih35 h1046 wh1046 hfh1046 x1047 (by omega) (by omega) Gh1046 hGh1046 iB (li_add (N := N) hw.2.2.2 iL3 (by omega) (l0 := x1012.toInt.toNat) (by omega) A1 A2 A3 dB (fun l9 lo9 hi9 z1 z2 => by have := wt_lohi hw l9 lo9 hi9 z1 z2; omega) m1 m2) (by omega)
  have B2 : ∀ (n2 : Nat) (hb : List tC) (hwb : WT N pk τ hb) (hfb : Fr (PEX 60) τ h hb) (x1048 : Int32) (lx1048 : 0 ≤ x1048.toInt) (ux1048 : x1048.toInt ≤ 64) (F2 : Nat → Nat → Int) (hF2 : FV τ hb F2) (iv2 : ∀ a b : Nat, a < 8 → b < 8 → ((8 * a + b : Nat) : Int) < x1048.toInt → F2 a b = if a = b then 0 else 1000000), 64 - x1048.toInt < n2 → TT l D mX7_measure Q0 0 0 2 [(0, .inr (some a0)), (1, .inl a1), (2, .inl x1048)] [] hb := by
    intro n2
    induction n2 with
    | zero =>
      intro hb hwb hfb x1048 lx1048 ux1048 F2 hF2 iv2 hn2
      exfalso
      omega
    | succ n2 ih2 =>
      intro hb hwb hfb x1048 lx1048 ux1048 F2 hF2 iv2 hn2
      refine tt_iload_n (pc := 2) dX7_measure_2 (.tail _ (.tail _ (.head _))) ?_
      refine tw_bipush (pc := 3) dX7_measure_3 (by decide) (fun x1049 ex1049 => ?_)
      refine tw_icmp (tgt := 33) (pc := 5) dX7_measure_5 (by decide) (fun (c1050 : x1049.toInt ≤ x1048.toInt) => ?_) (fun (c1050 : ¬ (x1049.toInt ≤ x1048.toInt)) => ?_)
      · skip
        refine tw_iconst (pc := 33) dX7_measure_33 (by decide) (fun x1051 ex1051 => ?_)
        refine tt_istore_n (pc := 34) dX7_measure_34 (by decide) ?_
        show TT _ _ _ _ _ _ _ [(2, .inl x1051), (0, .inr (some a0)), (1, .inl a1)] _ _
        refine tt_loc [(0, .inr (some a0)), (1, .inl a1), (2, .inl x1051)] (List.forall_mem_cons.mpr ⟨(.tail _ (.head _)), List.forall_mem_cons.mpr ⟨(.tail _ (.tail _ (.head _))), List.forall_mem_cons.mpr ⟨(.head _), fun _ z => absurd z List.not_mem_nil⟩⟩⟩) ?_
        exact B35 13 hb hwb hfb x1051 (by omega) (by omega) F2 hF2 (fw_zero (fun a ha => by rw [iv2 a a (by omega) (by omega) (by omega), if_pos rfl]) (fun a b ha hb hne => by rw [iv2 a b (by omega) (by omega) (by omega), if_neg hne])).1 (fun l9 li lo hi co hl9 => by exfalso; omega) (by omega)
      · skip
        refine tt_aload_n (pc := 8) dX7_measure_8 (.head _) ?_
        refine tw_getr (pc := 9) dX7_measure_9 flX7_89 hwb ta0 (by decide) rfl (fun f1052 q1053 ef1052 gf1052 tq1053 => ?_)
        refine tt_iload_n (pc := 12) dX7_measure_12 (.tail _ (.tail _ (.head _))) ?_
        refine tt_iload_n (pc := 13) dX7_measure_13 (.tail _ (.tail _ (.head _))) ?_
        refine tw_bipush (pc := 14) dX7_measure_14 (by decide) (fun x1054 ex1054 => ?_)
        refine tw_irem (c := 9) (pc := 16) dX7_measure_16 (by omega) (by omega) (by decide) (fun x1055 ex1055 => ?_)
        refine tw_if (tgt := 24) (pc := 17) dX7_measure_17 (by decide) (fun (c1056 : x1055.toInt ≠ 0) => ?_) (fun (c1056 : ¬ (x1055.toInt ≠ 0)) => ?_)
        · skip
          refine tw_ldc (n := 1000000) (pc := 24) dX7_measure_24 rfl kcX7_124 (by decide) (fun x1057 ex1057 => ?_)
          refine tw_ist (P := (PEX 60)) (pc := 26) dX7_measure_26 hwb tq1053 rfl (by omega) (by omega) (by omega) (by omega) (by decide) (fun f1058 h1059 eh1059 gh1059 kh1059 wh1059 fh1059 => ?_)
          have hfh1059 := hfb.tr (fh1059.weak (weak_PEX (fun _ => rfl)))
          obtain ⟨f1060, E1061, G1062⟩ := fr_fld fh1059 ta0 (by decide) ef1052 gf1052
          refine tw_iinc (pc := 27) dX7_measure_27 (.tail _ (.tail _ (.head _))) (by decide) (by decide) (by omega) (fun x1063 ex1063 => ?_)
          show TT _ _ _ _ _ _ _ [(2, .inl x1063), (0, .inr (some a0)), (1, .inl a1)] _ _
          refine tt_goto (tgt := 2) (pc := 30) dX7_measure_30 (by decide) ?_
          have fs := fv_set hwb.2.2.2 hF2 tq1053 eh1059 (p := x1048.toInt.toNat / 8) (q := x1048.toInt.toNat % 8) (by omega) (by omega) (by show x1048.toInt.toNat = _; omega) gh1059
          refine tt_loc [(0, .inr (some a0)), (1, .inl a1), (2, .inl x1063)] (List.forall_mem_cons.mpr ⟨(.tail _ (.head _)), List.forall_mem_cons.mpr ⟨(.tail _ (.tail _ (.head _))), List.forall_mem_cons.mpr ⟨(.head _), fun _ z => absurd z List.not_mem_nil⟩⟩⟩) ?_
          exact ih2 h1059 wh1059 hfh1059 x1063 (by omega) (by omega) _ fs (fun a b ha hb z => by
  show (if a = x1048.toInt.toNat / 8 ∧ b = x1048.toInt.toNat % 8 then x1057.toInt else F2 a b) = _
  by_cases y : ((8 * a + b : Nat) : Int) = x1048.toInt
  · rw [if_pos (by omega)]
    by_cases u : a = b
    · rw [if_pos u]; omega
    · rw [if_neg u]; omega
  · rw [if_neg (by omega)]
    exact iv2 a b ha hb (by omega)) (by omega)
        · skip
          refine tw_iconst (pc := 20) dX7_measure_20 (by decide) (fun x1064 ex1064 => ?_)
          refine tt_goto (tgt := 26) (pc := 21) dX7_measure_21 (by decide) ?_
          refine tw_ist (P := (PEX 60)) (pc := 26) dX7_measure_26 hwb tq1053 rfl (by omega) (by omega) (by omega) (by omega) (by decide) (fun f1065 h1066 eh1066 gh1066 kh1066 wh1066 fh1066 => ?_)
          have hfh1066 := hfb.tr (fh1066.weak (weak_PEX (fun _ => rfl)))
          obtain ⟨f1067, E1068, G1069⟩ := fr_fld fh1066 ta0 (by decide) ef1052 gf1052
          refine tw_iinc (pc := 27) dX7_measure_27 (.tail _ (.tail _ (.head _))) (by decide) (by decide) (by omega) (fun x1070 ex1070 => ?_)
          show TT _ _ _ _ _ _ _ [(2, .inl x1070), (0, .inr (some a0)), (1, .inl a1)] _ _
          refine tt_goto (tgt := 2) (pc := 30) dX7_measure_30 (by decide) ?_
          have fs := fv_set hwb.2.2.2 hF2 tq1053 eh1066 (p := x1048.toInt.toNat / 8) (q := x1048.toInt.toNat % 8) (by omega) (by omega) (by show x1048.toInt.toNat = _; omega) gh1066
          refine tt_loc [(0, .inr (some a0)), (1, .inl a1), (2, .inl x1070)] (List.forall_mem_cons.mpr ⟨(.tail _ (.head _)), List.forall_mem_cons.mpr ⟨(.tail _ (.tail _ (.head _))), List.forall_mem_cons.mpr ⟨(.head _), fun _ z => absurd z List.not_mem_nil⟩⟩⟩) ?_
          exact ih2 h1066 wh1066 hfh1066 x1070 (by omega) (by omega) _ fs (fun a b ha hb z => by
  show (if a = x1048.toInt.toNat / 8 ∧ b = x1048.toInt.toNat % 8 then x1064.toInt else F2 a b) = _
  by_cases y : ((8 * a + b : Nat) : Int) = x1048.toInt
  · rw [if_pos (by omega)]
    by_cases u : a = b
    · rw [if_pos u]; omega
    · rw [if_neg u]; omega
  · rw [if_neg (by omega)]
    exact iv2 a b ha hb (by omega)) (by omega)
  refine tw_iconst (pc := 0) dX7_measure_0 (by decide) (fun x1071 ex1071 => ?_)
  refine tt_istore_n (pc := 1) dX7_measure_1 (by decide) ?_
  show TT _ _ _ _ _ _ _ [(2, .inl x1071), (0, .inr (some a0)), (1, .inl a1)] _ _
  obtain ⟨fs9, e9, -⟩ := wt_obj hw ta0 (by decide)
  obtain ⟨k60, g60, t60⟩ := wt_ref (k := 30) hw ta0 (by decide) e9 rfl
  obtain ⟨F0, hF0⟩ := fv_of hw t60
  refine tt_loc [(0, .inr (some a0)), (1, .inl a1), (2, .inl x1071)] (List.forall_mem_cons.mpr ⟨(.tail _ (.head _)), List.forall_mem_cons.mpr ⟨(.tail _ (.tail _ (.head _))), List.forall_mem_cons.mpr ⟨(.head _), fun _ z => absurd z List.not_mem_nil⟩⟩⟩) ?_
  exact B2 65 h hw hf x1071 (by omega) (by omega) F0 hF0 (fun a b _ _ z => by exfalso; omega) (by omega)
