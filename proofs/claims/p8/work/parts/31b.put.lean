abbrev mX7_put : tM := (RX7, cX7_put, 9, 0, 0, false)
set_option maxHeartbeats 4000000 in
theorem g_X7_putG {l : Launch} {D : va_G} {N : Nat} {pk : Int} {τ : List Nat} (hN2 : 2 ≤ N) (hN8 : N ≤ 8) (hp0 : 0 ≤ pk) (hp64 : pk ≤ 64) {h : List tC} (hw : WT N pk τ h) (a0 : Nat) (ta0 : τ[a0]? = some 7) (a1 : Int32) (a2 : Int32) (la2 : 0 ≤ a2.toInt) (ua2 : a2.toInt ≤ 11) (a3 : Int32) (la3 : 0 ≤ a3.toInt) (ua3 : a3.toInt ≤ 4) (a4 : Int32) (la4 : 0 ≤ a4.toInt) (ua4 : a4.toInt ≤ 63) (a5 : Int32) (a6 : Int32) (r1 : a3.toInt ≠ 4 → a4.toInt ≤ 7) (r2 : a3.toInt ≠ 0 → -1 ≤ a5.toInt ∧ a5.toInt ≤ 79) : TMc l D yX7_put cX7_put 9 (some .boolean) 0 0 0 0 [.inr (some a0), .inl a1, .inl a2, .inl a3, .inl a4, .inl a5, .inl a6] h (fun rv h' => WT N pk τ h' ∧ Fr PMq τ h h' ∧ ∃ x : Int32, rv = some (.inl x) ∧ 0 ≤ x.toInt ∧ x.toInt ≤ 1) := by
  refine tmc_of false rfl (by decide) (Nat.le_of_ble_eq_true rfl) ?_
  suffices HQ : ∀ Q0, Q0 = tRt cX7_put (some .boolean) (fun rv h' => WT N pk τ h' ∧ Fr PMq τ h h' ∧ ∃ x : Int32, rv = some (.inl x) ∧ 0 ≤ x.toInt ∧ x.toInt ≤ 1) → TT l D mX7_put Q0 0 0 0 [(0, .inr (some a0)), (1, .inl a1), (2, .inl a2), (3, .inl a3), (4, .inl a4), (5, .inl a5), (6, .inl a6)] [] h from HQ _ rfl
  intro Q0 hQ
  have hf : Fr PMq τ h h := Fr.rf
  have ba1 := i_ty a1
  have ba5 := i_ty a5
  have ba6 := i_ty a6
  refine tt_aload_n (pc := 0) dX7_put_0 (.head _) ?_
  refine tw_getr (pc := 1) dX7_put_1 flX7_16 hw ta0 (by decide) rfl (fun f72 q73 ef72 gf72 tq73 => ?_)
  refine tt_iload_n (pc := 4) dX7_put_4 (.tail _ (.tail _ (.head _))) ?_
  refine tw_ild (pc := 5) dX7_put_5 hw tq73 rfl (by omega) (by omega) (fun f75 x74 ef75 gf75 lx74 ux74 => ?_)
  refine tt_iload_n (pc := 6) dX7_put_6 (.tail _ (.head _)) ?_
  refine tw_icmp (tgt := 16) (pc := 7) dX7_put_7 (by decide) (fun (c76 : x74.toInt ≠ a1.toInt) => ?_) (fun (c76 : ¬ (x74.toInt ≠ a1.toInt)) => ?_)
  · skip
    refine tw_iconst (pc := 16) dX7_put_16 (by decide) (fun x77 ex77 => ?_)
    refine tt_iload_n (pc := 17) dX7_put_17 (.tail _ (.tail _ (.head _))) ?_
    refine tw_imul (c := 2) (pc := 18) dX7_put_18 (by omega) (by omega) (fun x78 ex78 => ?_)
    refine tw_iconst (pc := 19) dX7_put_19 (by decide) (fun x79 ex79 => ?_)
    refine tw_iadd (pc := 20) dX7_put_20 (by omega) (fun x80 ex80 => ?_)
    refine tt_istore (pc := 21) dX7_put_21 (by decide) ?_
    show TT _ _ _ _ _ _ _ [(7, .inl x80), (0, .inr (some a0)), (1, .inl a1), (2, .inl a2), (3, .inl a3), (4, .inl a4), (5, .inl a5), (6, .inl a6)] _ _
    refine tt_aload_n (pc := 23) dX7_put_23 (.tail _ (.head _)) ?_
    refine tw_getr (pc := 24) dX7_put_24 flX7_38 hw ta0 (by decide) rfl (fun f81 q82 ef81 gf81 tq82 => ?_)
    refine tt_iload (pc := 27) dX7_put_27 (.head _) ?_
    refine tw_ild (pc := 29) dX7_put_29 hw tq82 rfl (by omega) (by omega) (fun f84 x83 ef84 gf84 lx83 ux83 => ?_)
    refine tw_bipush (pc := 30) dX7_put_30 (by decide) (fun x85 ex85 => ?_)
    refine tw_icmp (tgt := 37) (pc := 32) dX7_put_32 (by decide) (fun (c86 : x83.toInt ≠ x85.toInt) => ?_) (fun (c86 : ¬ (x83.toInt ≠ x85.toInt)) => ?_)
    · skip
      refine tw_bipush (pc := 37) dX7_put_37 (by decide) (fun x87 ex87 => ?_)
      refine tt_iload (pc := 39) dX7_put_39 (.head _) ?_
      refine tw_imul (c := 16) (pc := 41) dX7_put_41 (by omega) (by omega) (fun x88 ex88 => ?_)
      refine tt_aload_n (pc := 42) dX7_put_42 (.tail _ (.head _)) ?_
      refine tt_get (pc := 43) dX7_put_43 flX7_38 ef81 gf81 ?_
      refine tt_iload (pc := 46) dX7_put_46 (.head _) ?_
      refine tt_iald (pc := 48) dX7_put_48 ef84 (i_nn (by omega)) gf84 ?_
      refine tw_iadd (pc := 49) dX7_put_49 (by omega) (fun x89 ex89 => ?_)
      refine tt_istore (pc := 50) dX7_put_50 (by decide) ?_
      show TT _ _ _ _ _ _ _ [(8, .inl x89), (7, .inl x80), (0, .inr (some a0)), (1, .inl a1), (2, .inl a2), (3, .inl a3), (4, .inl a4), (5, .inl a5), (6, .inl a6)] _ _
      obtain ⟨fs9, e9, -⟩ := wt_obj hw ta0 (by decide)
      obtain ⟨k1, g1, t1⟩ := wt_ref (k := 12) hw ta0 (by decide) e9 rfl
      obtain ⟨k2, g2, t2⟩ := wt_ref (k := 13) hw ta0 (by decide) e9 rfl
      obtain ⟨k3, g3, t3⟩ := wt_ref (k := 14) hw ta0 (by decide) e9 rfl
      obtain ⟨xs, ex, lx, -⟩ := wt_ints hw t1 rfl (by decide)
      obtain ⟨ys, ey, ly, -⟩ := wt_ints hw t2 rfl (by decide)
      obtain ⟨zs, ez, lz, -⟩ := wt_ints hw t3 rfl (by decide)
      have n0 : k1 ≠ a0 := t_neq t1 ta0 (by decide)
      have n4 : k2 ≠ a0 := t_neq t2 ta0 (by decide)
      have n1 : k1 ≠ k2 := t_neq t1 t2 (by decide)
      have n2 : k1 ≠ k3 := t_neq t1 t3 (by decide)
      have n3 : k2 ≠ k3 := t_neq t2 t3 (by decide)
      have mlt : x89.toNatClampNeg < 384 := i_lt (by omega) (by omega)
      refine tt_aload_n (pc := 52) dX7_put_52 (.tail _ (.tail _ (.head _))) ?_
      refine tt_get (pc := 53) dX7_put_53 flX7_41 e9 g1 ?_
      refine tt_iload (pc := 56) dX7_put_56 (.head _) ?_
      refine tt_iload_n (pc := 58) dX7_put_58 (.tail _ (.tail _ (.tail _ (.tail _ (.tail _ (.head _)))))) ?_
      refine tt_iast (pc := 59) dX7_put_59 ex (i_nn (by omega)) (by rw [lx]; exact mlt) ?_
      refine tt_aload_n (pc := 60) dX7_put_60 (.tail _ (.tail _ (.head _))) ?_
      refine tt_get (pc := 61) dX7_put_61 flX7_44 (by rw [List.getElem?_set_ne n0]; exact e9) g2 ?_
      refine tt_iload (pc := 64) dX7_put_64 (.head _) ?_
      refine tt_iload (pc := 66) dX7_put_66 (.tail _ (.tail _ (.tail _ (.tail _ (.tail _ (.tail _ (.head _))))))) ?_
      refine tt_iast (pc := 68) dX7_put_68 (by rw [List.getElem?_set_ne n1]; exact ey) (i_nn (by omega)) (by rw [ly]; exact mlt) ?_
      refine tt_aload_n (pc := 69) dX7_put_69 (.tail _ (.tail _ (.head _))) ?_
      refine tt_get (pc := 70) dX7_put_70 flX7_47 (by rw [List.getElem?_set_ne n4, List.getElem?_set_ne n0]; exact e9) g3 ?_
      refine tt_iload (pc := 73) dX7_put_73 (.head _) ?_
      refine tt_iload (pc := 75) dX7_put_75 (.tail _ (.tail _ (.tail _ (.tail _ (.tail _ (.tail _ (.tail _ (.head _)))))))) ?_
      refine tt_iast (pc := 77) dX7_put_77 (by rw [List.getElem?_set_ne n3, List.getElem?_set_ne n2]; exact ez) (i_nn (by omega)) (by rw [lz]; exact mlt) ?_
      have wh90 := wt_put3 hw t1 t2 t3 ex ey ez x89.toNatClampNeg (x := a3) (y := a4) (z := a5) (by omega) (by omega) (by omega) (by omega) r1 r2
      have fh90 := fr_put3 (P := PMq) (xs' := xs.set x89.toNatClampNeg a3) (ys' := ys.set x89.toNatClampNeg a4) (zs' := zs.set x89.toNatClampNeg a5) hw.1 t1 t2 t3 ex ey ez (by decide) (by decide) (by decide)
      obtain ⟨h90, eH⟩ : ∃ z, z = (((h.set k1 (.inl (0, xs.set x89.toNatClampNeg a3))).set k2 (.inl (0, ys.set x89.toNatClampNeg a4))).set k3 (.inl (0, zs.set x89.toNatClampNeg a5))) := ⟨_, rfl⟩
      rw [← eH] at wh90 fh90 ⊢
      have E91 : h90[q82]? = some (.inl (0, f84)) := by
        rw [eH, List.getElem?_set_ne (t_neq t3 tq82 (by decide)), List.getElem?_set_ne (t_neq t2 tq82 (by decide)), List.getElem?_set_ne (t_neq t1 tq82 (by decide))]
        exact ef84
      have hfh90 := hf.tr fh90
      refine tt_aload_n (pc := 78) dX7_put_78 (.tail _ (.tail _ (.head _))) ?_
      refine tw_getr (pc := 79) dX7_put_79 flX7_50 wh90 ta0 (by decide) rfl (fun f92 q93 ef92 gf92 tq93 => ?_)
      refine tt_iload (pc := 82) dX7_put_82 (.head _) ?_
      refine tt_iload (pc := 84) dX7_put_84 (.tail _ (.tail _ (.tail _ (.tail _ (.tail _ (.tail _ (.tail _ (.tail _ (.head _))))))))) ?_
      refine tw_ist (P := PMr) (pc := 86) dX7_put_86 wh90 tq93 rfl (by omega) (by omega) (by omega) (by omega) (by decide) (fun f94 h95 eh95 gh95 kh95 wh95 fh95 => ?_)
      have hfh95 := hfh90.tr (fh95.weak weak_PMr_PMq)
      have E96 := fr_arrI fh95 tq82 (by decide) E91
      refine tt_aload_n (pc := 87) dX7_put_87 (.tail _ (.tail _ (.head _))) ?_
      refine tw_getr (pc := 88) dX7_put_88 flX7_53 wh95 ta0 (by decide) rfl (fun f97 q98 ef97 gf97 tq98 => ?_)
      refine tt_iload (pc := 91) dX7_put_91 (.head _) ?_
      refine tw_iconst (pc := 93) dX7_put_93 (by decide) (fun x99 ex99 => ?_)
      refine tw_zst (P := PMr) (pc := 94) dX7_put_94 wh95 tq98 rfl (by omega) (by omega) (by omega) (by omega) (by decide) (fun f100 h101 eh101 gh101 kh101 wh101 fh101 => ?_)
      have hfh101 := hfh95.tr (fh101.weak weak_PMr_PMq)
      have E102 := fr_arrI fh101 tq82 (by decide) E96
      refine tt_aload_n (pc := 95) dX7_put_95 (.tail _ (.tail _ (.head _))) ?_
      refine tw_getr (pc := 96) dX7_put_96 flX7_38 wh101 ta0 (by decide) rfl (fun f103 q104 ef103 gf103 tq104 => ?_)
      refine tt_iload (pc := 99) dX7_put_99 (.tail _ (.head _)) ?_
      refine tt_dup2 (pc := 101) dX7_put_101 ?_
      refine tt_iald (pc := 102) dX7_put_102 (by rw [wh101.2.2.2 _ _ 41 (by decide) tq104 tq82]; exact E102) (i_nn (by omega)) gf84 ?_
      refine tw_iconst (pc := 103) dX7_put_103 (by decide) (fun x105 ex105 => ?_)
      refine tw_iadd (pc := 104) dX7_put_104 (by omega) (fun x106 ex106 => ?_)
      refine tw_ist (P := PMq) (pc := 105) dX7_put_105 wh101 tq104 rfl (by omega) (by omega) (by omega) (by omega) (by decide) (fun f107 h108 eh108 gh108 kh108 wh108 fh108 => ?_)
      have hfh108 := hfh101.tr fh108
      refine tw_iconst (pc := 106) dX7_put_106 (by decide) (fun x109 ex109 => ?_)
      refine tt_stop ?_
      rw [hQ]
      exact Or.inr (Or.inl ⟨x109, dX7_put_107, rfl, Or.inr ⟨rfl, bool01 (by omega) (by omega)⟩, wh108, hfh108, x109, rfl, by omega, by omega⟩)
    · skip
      refine tw_iconst (pc := 35) dX7_put_35 (by decide) (fun x110 ex110 => ?_)
      refine tt_stop ?_
      rw [hQ]
      exact Or.inr (Or.inl ⟨x110, dX7_put_36, rfl, Or.inr ⟨rfl, bool01 (by omega) (by omega)⟩, hw, hf, x110, rfl, by omega, by omega⟩)
  · skip
    refine tw_iconst (pc := 10) dX7_put_10 (by decide) (fun x111 ex111 => ?_)
    refine tt_iload_n (pc := 11) dX7_put_11 (.tail _ (.tail _ (.head _))) ?_
    refine tw_imul (c := 2) (pc := 12) dX7_put_12 (by omega) (by omega) (fun x112 ex112 => ?_)
    refine tt_goto (tgt := 21) (pc := 13) dX7_put_13 (by decide) ?_
    refine tt_istore (pc := 21) dX7_put_21 (by decide) ?_
    show TT _ _ _ _ _ _ _ [(7, .inl x112), (0, .inr (some a0)), (1, .inl a1), (2, .inl a2), (3, .inl a3), (4, .inl a4), (5, .inl a5), (6, .inl a6)] _ _
    refine tt_aload_n (pc := 23) dX7_put_23 (.tail _ (.head _)) ?_
    refine tw_getr (pc := 24) dX7_put_24 flX7_38 hw ta0 (by decide) rfl (fun f113 q114 ef113 gf113 tq114 => ?_)
    refine tt_iload (pc := 27) dX7_put_27 (.head _) ?_
    refine tw_ild (pc := 29) dX7_put_29 hw tq114 rfl (by omega) (by omega) (fun f116 x115 ef116 gf116 lx115 ux115 => ?_)
    refine tw_bipush (pc := 30) dX7_put_30 (by decide) (fun x117 ex117 => ?_)
    refine tw_icmp (tgt := 37) (pc := 32) dX7_put_32 (by decide) (fun (c118 : x115.toInt ≠ x117.toInt) => ?_) (fun (c118 : ¬ (x115.toInt ≠ x117.toInt)) => ?_)
    · skip
      refine tw_bipush (pc := 37) dX7_put_37 (by decide) (fun x119 ex119 => ?_)
      refine tt_iload (pc := 39) dX7_put_39 (.head _) ?_
      refine tw_imul (c := 16) (pc := 41) dX7_put_41 (by omega) (by omega) (fun x120 ex120 => ?_)
      refine tt_aload_n (pc := 42) dX7_put_42 (.tail _ (.head _)) ?_
      refine tt_get (pc := 43) dX7_put_43 flX7_38 ef113 gf113 ?_
      refine tt_iload (pc := 46) dX7_put_46 (.head _) ?_
      refine tt_iald (pc := 48) dX7_put_48 ef116 (i_nn (by omega)) gf116 ?_
      refine tw_iadd (pc := 49) dX7_put_49 (by omega) (fun x121 ex121 => ?_)
      refine tt_istore (pc := 50) dX7_put_50 (by decide) ?_
      show TT _ _ _ _ _ _ _ [(8, .inl x121), (7, .inl x112), (0, .inr (some a0)), (1, .inl a1), (2, .inl a2), (3, .inl a3), (4, .inl a4), (5, .inl a5), (6, .inl a6)] _ _
      obtain ⟨fs9, e9, -⟩ := wt_obj hw ta0 (by decide)
      obtain ⟨k1, g1, t1⟩ := wt_ref (k := 12) hw ta0 (by decide) e9 rfl
      obtain ⟨k2, g2, t2⟩ := wt_ref (k := 13) hw ta0 (by decide) e9 rfl
      obtain ⟨k3, g3, t3⟩ := wt_ref (k := 14) hw ta0 (by decide) e9 rfl
      obtain ⟨xs, ex, lx, -⟩ := wt_ints hw t1 rfl (by decide)
      obtain ⟨ys, ey, ly, -⟩ := wt_ints hw t2 rfl (by decide)
      obtain ⟨zs, ez, lz, -⟩ := wt_ints hw t3 rfl (by decide)
      have n0 : k1 ≠ a0 := t_neq t1 ta0 (by decide)
      have n4 : k2 ≠ a0 := t_neq t2 ta0 (by decide)
      have n1 : k1 ≠ k2 := t_neq t1 t2 (by decide)
      have n2 : k1 ≠ k3 := t_neq t1 t3 (by decide)
      have n3 : k2 ≠ k3 := t_neq t2 t3 (by decide)
      have mlt : x121.toNatClampNeg < 384 := i_lt (by omega) (by omega)
      refine tt_aload_n (pc := 52) dX7_put_52 (.tail _ (.tail _ (.head _))) ?_
      refine tt_get (pc := 53) dX7_put_53 flX7_41 e9 g1 ?_
      refine tt_iload (pc := 56) dX7_put_56 (.head _) ?_
      refine tt_iload_n (pc := 58) dX7_put_58 (.tail _ (.tail _ (.tail _ (.tail _ (.tail _ (.head _)))))) ?_
      refine tt_iast (pc := 59) dX7_put_59 ex (i_nn (by omega)) (by rw [lx]; exact mlt) ?_
      refine tt_aload_n (pc := 60) dX7_put_60 (.tail _ (.tail _ (.head _))) ?_
      refine tt_get (pc := 61) dX7_put_61 flX7_44 (by rw [List.getElem?_set_ne n0]; exact e9) g2 ?_
      refine tt_iload (pc := 64) dX7_put_64 (.head _) ?_
      refine tt_iload (pc := 66) dX7_put_66 (.tail _ (.tail _ (.tail _ (.tail _ (.tail _ (.tail _ (.head _))))))) ?_
      refine tt_iast (pc := 68) dX7_put_68 (by rw [List.getElem?_set_ne n1]; exact ey) (i_nn (by omega)) (by rw [ly]; exact mlt) ?_
      refine tt_aload_n (pc := 69) dX7_put_69 (.tail _ (.tail _ (.head _))) ?_
      refine tt_get (pc := 70) dX7_put_70 flX7_47 (by rw [List.getElem?_set_ne n4, List.getElem?_set_ne n0]; exact e9) g3 ?_
      refine tt_iload (pc := 73) dX7_put_73 (.head _) ?_
      refine tt_iload (pc := 75) dX7_put_75 (.tail _ (.tail _ (.tail _ (.tail _ (.tail _ (.tail _ (.tail _ (.head _)))))))) ?_
      refine tt_iast (pc := 77) dX7_put_77 (by rw [List.getElem?_set_ne n3, List.getElem?_set_ne n2]; exact ez) (i_nn (by omega)) (by rw [lz]; exact mlt) ?_
      have wh122 := wt_put3 hw t1 t2 t3 ex ey ez x121.toNatClampNeg (x := a3) (y := a4) (z := a5) (by omega) (by omega) (by omega) (by omega) r1 r2
      have fh122 := fr_put3 (P := PMq) (xs' := xs.set x121.toNatClampNeg a3) (ys' := ys.set x121.toNatClampNeg a4) (zs' := zs.set x121.toNatClampNeg a5) hw.1 t1 t2 t3 ex ey ez (by decide) (by decide) (by decide)
      obtain ⟨h122, eH⟩ : ∃ z, z = (((h.set k1 (.inl (0, xs.set x121.toNatClampNeg a3))).set k2 (.inl (0, ys.set x121.toNatClampNeg a4))).set k3 (.inl (0, zs.set x121.toNatClampNeg a5))) := ⟨_, rfl⟩
      rw [← eH] at wh122 fh122 ⊢
      have E123 : h122[q114]? = some (.inl (0, f116)) := by
        rw [eH, List.getElem?_set_ne (t_neq t3 tq114 (by decide)), List.getElem?_set_ne (t_neq t2 tq114 (by decide)), List.getElem?_set_ne (t_neq t1 tq114 (by decide))]
        exact ef116
      have hfh122 := hf.tr fh122
      refine tt_aload_n (pc := 78) dX7_put_78 (.tail _ (.tail _ (.head _))) ?_
      refine tw_getr (pc := 79) dX7_put_79 flX7_50 wh122 ta0 (by decide) rfl (fun f124 q125 ef124 gf124 tq125 => ?_)
      refine tt_iload (pc := 82) dX7_put_82 (.head _) ?_
      refine tt_iload (pc := 84) dX7_put_84 (.tail _ (.tail _ (.tail _ (.tail _ (.tail _ (.tail _ (.tail _ (.tail _ (.head _))))))))) ?_
      refine tw_ist (P := PMr) (pc := 86) dX7_put_86 wh122 tq125 rfl (by omega) (by omega) (by omega) (by omega) (by decide) (fun f126 h127 eh127 gh127 kh127 wh127 fh127 => ?_)
      have hfh127 := hfh122.tr (fh127.weak weak_PMr_PMq)
      have E128 := fr_arrI fh127 tq114 (by decide) E123
      refine tt_aload_n (pc := 87) dX7_put_87 (.tail _ (.tail _ (.head _))) ?_
      refine tw_getr (pc := 88) dX7_put_88 flX7_53 wh127 ta0 (by decide) rfl (fun f129 q130 ef129 gf129 tq130 => ?_)
      refine tt_iload (pc := 91) dX7_put_91 (.head _) ?_
      refine tw_iconst (pc := 93) dX7_put_93 (by decide) (fun x131 ex131 => ?_)
      refine tw_zst (P := PMr) (pc := 94) dX7_put_94 wh127 tq130 rfl (by omega) (by omega) (by omega) (by omega) (by decide) (fun f132 h133 eh133 gh133 kh133 wh133 fh133 => ?_)
      have hfh133 := hfh127.tr (fh133.weak weak_PMr_PMq)
      have E134 := fr_arrI fh133 tq114 (by decide) E128
      refine tt_aload_n (pc := 95) dX7_put_95 (.tail _ (.tail _ (.head _))) ?_
      refine tw_getr (pc := 96) dX7_put_96 flX7_38 wh133 ta0 (by decide) rfl (fun f135 q136 ef135 gf135 tq136 => ?_)
      refine tt_iload (pc := 99) dX7_put_99 (.tail _ (.head _)) ?_
      refine tt_dup2 (pc := 101) dX7_put_101 ?_
      refine tt_iald (pc := 102) dX7_put_102 (by rw [wh133.2.2.2 _ _ 41 (by decide) tq136 tq114]; exact E134) (i_nn (by omega)) gf116 ?_
      refine tw_iconst (pc := 103) dX7_put_103 (by decide) (fun x137 ex137 => ?_)
      refine tw_iadd (pc := 104) dX7_put_104 (by omega) (fun x138 ex138 => ?_)
      refine tw_ist (P := PMq) (pc := 105) dX7_put_105 wh133 tq136 rfl (by omega) (by omega) (by omega) (by omega) (by decide) (fun f139 h140 eh140 gh140 kh140 wh140 fh140 => ?_)
      have hfh140 := hfh133.tr fh140
      refine tw_iconst (pc := 106) dX7_put_106 (by decide) (fun x141 ex141 => ?_)
      refine tt_stop ?_
      rw [hQ]
      exact Or.inr (Or.inl ⟨x141, dX7_put_107, rfl, Or.inr ⟨rfl, bool01 (by omega) (by omega)⟩, wh140, hfh140, x141, rfl, by omega, by omega⟩)
    · skip
      refine tw_iconst (pc := 35) dX7_put_35 (by decide) (fun x142 ex142 => ?_)
      refine tt_stop ?_
      rw [hQ]
      exact Or.inr (Or.inl ⟨x142, dX7_put_36, rfl, Or.inr ⟨rfl, bool01 (by omega) (by omega)⟩, hw, hf, x142, rfl, by omega, by omega⟩)
theorem g_X7_putA {l : Launch} {D : va_G} {N : Nat} {pk : Int} {τ : List Nat} (hN2 : 2 ≤ N) (hN8 : N ≤ 8) (hp0 : 0 ≤ pk) (hp64 : pk ≤ 64) {h : List tC} (hw : WT N pk τ h) (a0 : Nat) (ta0 : τ[a0]? = some 7) (a1 : Int32) (a2 : Int32) (la2 : 0 ≤ a2.toInt) (ua2 : a2.toInt ≤ 11) (a3 : Int32) (la3 : 0 ≤ a3.toInt) (ua3 : a3.toInt ≤ 0) (a4 : Int32) (la4 : 0 ≤ a4.toInt) (ua4 : a4.toInt ≤ 7) (a5 a6 : Int32) : TMc l D yX7_put cX7_put 9 (some .boolean) 0 0 0 0 [.inr (some a0), .inl a1, .inl a2, .inl a3, .inl a4, .inl a5, .inl a6] h (fun rv h' => WT N pk τ h' ∧ Fr PMq τ h h' ∧ ∃ x : Int32, rv = some (.inl x) ∧ 0 ≤ x.toInt ∧ x.toInt ≤ 1) := g_X7_putG hN2 hN8 hp0 hp64 hw a0 ta0 a1 a2 la2 ua2 a3 (by omega) (by omega) a4 (by omega) (by omega) a5 a6 (fun _ => ua4) (fun z => absurd (by omega) z)
theorem g_X7_putB {l : Launch} {D : va_G} {N : Nat} {pk : Int} {τ : List Nat} (hN2 : 2 ≤ N) (hN8 : N ≤ 8) (hp0 : 0 ≤ pk) (hp64 : pk ≤ 64) {h : List tC} (hw : WT N pk τ h) (a0 : Nat) (ta0 : τ[a0]? = some 7) (a1 : Int32) (a2 : Int32) (la2 : 0 ≤ a2.toInt) (ua2 : a2.toInt ≤ 11) (a3 : Int32) (la3 : 1 ≤ a3.toInt) (ua3 : a3.toInt ≤ 3) (a4 : Int32) (la4 : 0 ≤ a4.toInt) (ua4 : a4.toInt ≤ 7) (a5 : Int32) (la5 : -1 ≤ a5.toInt) (ua5 : a5.toInt ≤ 79) (a6 : Int32) : TMc l D yX7_put cX7_put 9 (some .boolean) 0 0 0 0 [.inr (some a0), .inl a1, .inl a2, .inl a3, .inl a4, .inl a5, .inl a6] h (fun rv h' => WT N pk τ h' ∧ Fr PMq τ h h' ∧ ∃ x : Int32, rv = some (.inl x) ∧ 0 ≤ x.toInt ∧ x.toInt ≤ 1) := g_X7_putG hN2 hN8 hp0 hp64 hw a0 ta0 a1 a2 la2 ua2 a3 (by omega) (by omega) a4 (by omega) (by omega) a5 a6 (fun _ => ua4) (fun _ => ⟨la5, ua5⟩)
theorem g_X7_putC {l : Launch} {D : va_G} {N : Nat} {pk : Int} {τ : List Nat} (hN2 : 2 ≤ N) (hN8 : N ≤ 8) (hp0 : 0 ≤ pk) (hp64 : pk ≤ 64) {h : List tC} (hw : WT N pk τ h) (a0 : Nat) (ta0 : τ[a0]? = some 7) (a1 : Int32) (a2 : Int32) (la2 : 0 ≤ a2.toInt) (ua2 : a2.toInt ≤ 11) (a3 : Int32) (la3 : 4 ≤ a3.toInt) (ua3 : a3.toInt ≤ 4) (a4 : Int32) (la4 : 0 ≤ a4.toInt) (ua4 : a4.toInt ≤ 63) (a5 : Int32) (la5 : -1 ≤ a5.toInt) (ua5 : a5.toInt ≤ 79) (a6 : Int32) : TMc l D yX7_put cX7_put 9 (some .boolean) 0 0 0 0 [.inr (some a0), .inl a1, .inl a2, .inl a3, .inl a4, .inl a5, .inl a6] h (fun rv h' => WT N pk τ h' ∧ Fr PMq τ h h' ∧ ∃ x : Int32, rv = some (.inl x) ∧ 0 ≤ x.toInt ∧ x.toInt ≤ 1) := g_X7_putG hN2 hN8 hp0 hp64 hw a0 ta0 a1 a2 la2 ua2 a3 (by omega) (by omega) a4 (by omega) (by omega) a5 a6 (fun z => absurd (by omega) z) (fun _ => ⟨la5, ua5⟩)
