/-- what the end of the reference's constructor leaves -/
def PMi (r _ : Nat) : Bool := !(r == 37 || r == 38 || r == 48 || r == 50)
abbrev mX7_init : tM := (RX7, cX7_init, 3, 1, 20, true)
set_option maxHeartbeats 4000000 in
theorem g_X7_initB {l : Launch} {D : va_G} {N : Nat} {pk : Int} {τ : List Nat} (hN2 : 2 ≤ N) (hN8 : N ≤ 8) (hp0 : 0 ≤ pk) (hp64 : pk ≤ 64) {h : List tC} (hw : WT N pk τ h) (a0 : Nat) (ta0 : τ[a0]? = some 7) : TT l D mX7_init (tRt cX7_init none (fun rv h' => WT N pk τ h' ∧ Fr PMi τ h h' ∧ (∀ (i : Nat) (v : Int32), ARV τ h' 37 i v → v.toInt = -1) ∧ rv = none)) 0 0 254 [(0, .inr (some a0))] [] h := by
  suffices HQ : ∀ Q0, Q0 = (tRt cX7_init none (fun rv h' => WT N pk τ h' ∧ Fr PMi τ h h' ∧ (∀ (i : Nat) (v : Int32), ARV τ h' 37 i v → v.toInt = -1) ∧ rv = none)) → TT l D mX7_init Q0 0 0 254 [(0, .inr (some a0))] [] h from HQ _ rfl
  intro Q0 hQ
  have hf : Fr PMi τ h h := Fr.rf
  have B324 : ∀ (n324 : Nat) (hb : List tC) (hwb : WT N pk τ hb) (hfb : Fr PMi τ h hb) (x723 : Int32) (lx723 : 0 ≤ x723.toInt) (ux723 : x723.toInt ≤ 768) (mb : ∀ (i : Nat) (v : Int32), ARV τ hb 37 i v → v.toInt = -1), 768 - x723.toInt < n324 → TT l D mX7_init Q0 0 0 324 [(0, .inr (some a0)), (2, .inl x723)] [] hb := by
    intro n324
    induction n324 with
    | zero =>
      intro hb hwb hfb x723 lx723 ux723 mb hn324
      exfalso
      omega
    | succ n324 ih324 =>
      intro hb hwb hfb x723 lx723 ux723 mb hn324
      refine tt_iload_n (pc := 324) dX7_init_324 (.tail _ (.head _)) ?_
      refine tw_sipush (pc := 325) dX7_init_325 (by decide) (fun x724 ex724 => ?_)
      refine tw_icmp (tgt := 344) (pc := 328) dX7_init_328 (by decide) (fun (c725 : x724.toInt ≤ x723.toInt) => ?_) (fun (c725 : ¬ (x724.toInt ≤ x723.toInt)) => ?_)
      · skip
        refine tt_stop ?_
        rw [hQ]
        exact Or.inl ⟨dX7_init_344, rfl, rfl, hwb, hfb, mb, rfl⟩
      · skip
        refine tt_aload_n (pc := 331) dX7_init_331 (.head _) ?_
        refine tw_getr (pc := 332) dX7_init_332 flX7_56 hwb ta0 (by decide) rfl (fun f726 q727 ef726 gf726 tq727 => ?_)
        refine tt_iload_n (pc := 335) dX7_init_335 (.tail _ (.head _)) ?_
        refine tw_iconst (pc := 336) dX7_init_336 (by decide) (fun x728 ex728 => ?_)
        refine tw_ist (P := (PEX 48)) (pc := 337) dX7_init_337 hwb tq727 rfl (by omega) (by omega) (by omega) (by omega) (by decide) (fun f729 h730 eh730 gh730 kh730 wh730 fh730 => ?_)
        have hfh730 := hfb.tr (fh730.weak (weak_PEX (fun _ => rfl)))
        obtain ⟨f731, E732, G733⟩ := fr_fld fh730 ta0 (by decide) ef726 gf726
        refine tw_iinc (pc := 338) dX7_init_338 (.tail _ (.head _)) (by decide) (by decide) (by omega) (fun x734 ex734 => ?_)
        show TT _ _ _ _ _ _ _ [(2, .inl x734), (0, .inr (some a0))] _ _
        refine tt_goto (tgt := 324) (pc := 341) dX7_init_341 (by decide) ?_
        refine tt_loc [(0, .inr (some a0)), (2, .inl x734)] (List.forall_mem_cons.mpr ⟨(.tail _ (.head _)), List.forall_mem_cons.mpr ⟨(.head _), fun _ z => absurd z List.not_mem_nil⟩⟩) ?_
        exact ih324 h730 wh730 hfh730 x734 (by omega) (by omega) (fun i v a9 => mb i v (a9.back fh730 rfl)) (by omega)
  have B303 : ∀ (n303 : Nat) (hb : List tC) (hwb : WT N pk τ hb) (hfb : Fr PMi τ h hb) (x735 : Int32) (lx735 : 0 ≤ x735.toInt) (ux735 : x735.toInt ≤ 64) (mb : ∀ (i : Nat) (v : Int32), ARV τ hb 37 i v → v.toInt = -1), 64 - x735.toInt < n303 → TT l D mX7_init Q0 0 0 303 [(0, .inr (some a0)), (2, .inl x735)] [] hb := by
    intro n303
    induction n303 with
    | zero =>
      intro hb hwb hfb x735 lx735 ux735 mb hn303
      exfalso
      omega
    | succ n303 ih303 =>
      intro hb hwb hfb x735 lx735 ux735 mb hn303
      refine tt_iload_n (pc := 303) dX7_init_303 (.tail _ (.head _)) ?_
      refine tw_bipush (pc := 304) dX7_init_304 (by decide) (fun x736 ex736 => ?_)
      refine tw_icmp (tgt := 322) (pc := 306) dX7_init_306 (by decide) (fun (c737 : x736.toInt ≤ x735.toInt) => ?_) (fun (c737 : ¬ (x736.toInt ≤ x735.toInt)) => ?_)
      · skip
        refine tw_iconst (pc := 322) dX7_init_322 (by decide) (fun x738 ex738 => ?_)
        refine tt_istore_n (pc := 323) dX7_init_323 (by decide) ?_
        show TT _ _ _ _ _ _ _ [(2, .inl x738), (0, .inr (some a0))] _ _
        refine tt_loc [(0, .inr (some a0)), (2, .inl x738)] (List.forall_mem_cons.mpr ⟨(.tail _ (.head _)), List.forall_mem_cons.mpr ⟨(.head _), fun _ z => absurd z List.not_mem_nil⟩⟩) ?_
        exact B324 769 hb hwb hfb x738 (by omega) (by omega) mb (by omega)
      · skip
        refine tt_aload_n (pc := 309) dX7_init_309 (.head _) ?_
        refine tw_getr (pc := 310) dX7_init_310 flX7_62 hwb ta0 (by decide) rfl (fun f739 q740 ef739 gf739 tq740 => ?_)
        refine tt_iload_n (pc := 313) dX7_init_313 (.tail _ (.head _)) ?_
        refine tw_iconst (pc := 314) dX7_init_314 (by decide) (fun x741 ex741 => ?_)
        refine tw_ist (P := (PEX 50)) (pc := 315) dX7_init_315 hwb tq740 rfl (by omega) (by omega) (by omega) (by omega) (by decide) (fun f742 h743 eh743 gh743 kh743 wh743 fh743 => ?_)
        have hfh743 := hfb.tr (fh743.weak (weak_PEX (fun _ => rfl)))
        obtain ⟨f744, E745, G746⟩ := fr_fld fh743 ta0 (by decide) ef739 gf739
        refine tw_iinc (pc := 316) dX7_init_316 (.tail _ (.head _)) (by decide) (by decide) (by omega) (fun x747 ex747 => ?_)
        show TT _ _ _ _ _ _ _ [(2, .inl x747), (0, .inr (some a0))] _ _
        refine tt_goto (tgt := 303) (pc := 319) dX7_init_319 (by decide) ?_
        refine tt_loc [(0, .inr (some a0)), (2, .inl x747)] (List.forall_mem_cons.mpr ⟨(.tail _ (.head _)), List.forall_mem_cons.mpr ⟨(.head _), fun _ z => absurd z List.not_mem_nil⟩⟩) ?_
        exact ih303 h743 wh743 hfh743 x747 (by omega) (by omega) (fun i v a9 => mb i v (a9.back fh743 rfl)) (by omega)
  have B282 : ∀ (n282 : Nat) (hb : List tC) (hwb : WT N pk τ hb) (hfb : Fr PMi τ h hb) (x748 : Int32) (lx748 : 0 ≤ x748.toInt) (ux748 : x748.toInt ≤ 8) (mb : ∀ (i : Nat) (v : Int32), (i : Int) < x748.toInt → ARV τ hb 37 i v → v.toInt = -1), 8 - x748.toInt < n282 → TT l D mX7_init Q0 0 0 282 [(0, .inr (some a0)), (2, .inl x748)] [] hb := by
    intro n282
    induction n282 with
    | zero =>
      intro hb hwb hfb x748 lx748 ux748 mb hn282
      exfalso
      omega
    | succ n282 ih282 =>
      intro hb hwb hfb x748 lx748 ux748 mb hn282
      refine tt_iload_n (pc := 282) dX7_init_282 (.tail _ (.head _)) ?_
      refine tw_bipush (pc := 283) dX7_init_283 (by decide) (fun x749 ex749 => ?_)
      refine tw_icmp (tgt := 301) (pc := 285) dX7_init_285 (by decide) (fun (c750 : x749.toInt ≤ x748.toInt) => ?_) (fun (c750 : ¬ (x749.toInt ≤ x748.toInt)) => ?_)
      · skip
        refine tw_iconst (pc := 301) dX7_init_301 (by decide) (fun x751 ex751 => ?_)
        refine tt_istore_n (pc := 302) dX7_init_302 (by decide) ?_
        show TT _ _ _ _ _ _ _ [(2, .inl x751), (0, .inr (some a0))] _ _
        refine tt_loc [(0, .inr (some a0)), (2, .inl x751)] (List.forall_mem_cons.mpr ⟨(.tail _ (.head _)), List.forall_mem_cons.mpr ⟨(.head _), fun _ z => absurd z List.not_mem_nil⟩⟩) ?_
        exact B303 65 hb hwb hfb x751 (by omega) (by omega) (fun i v a9 => mb i v (by have := arv_len37 hwb a9; omega) a9) (by omega)
      · skip
        refine tt_aload_n (pc := 288) dX7_init_288 (.head _) ?_
        refine tw_getr (pc := 289) dX7_init_289 flX7_26 hwb ta0 (by decide) rfl (fun f752 q753 ef752 gf752 tq753 => ?_)
        refine tt_iload_n (pc := 292) dX7_init_292 (.tail _ (.head _)) ?_
        refine tw_iconst (pc := 293) dX7_init_293 (by decide) (fun x754 ex754 => ?_)
        refine tw_ist (P := (PEX 37)) (pc := 294) dX7_init_294 hwb tq753 rfl (by omega) (by omega) (by omega) (by omega) (by decide) (fun f755 h756 eh756 gh756 kh756 wh756 fh756 => ?_)
        have hfh756 := hfb.tr (fh756.weak (weak_PEX (fun _ => rfl)))
        obtain ⟨f757, E758, G759⟩ := fr_fld fh756 ta0 (by decide) ef752 gf752
        refine tw_iinc (pc := 295) dX7_init_295 (.tail _ (.head _)) (by decide) (by decide) (by omega) (fun x760 ex760 => ?_)
        show TT _ _ _ _ _ _ _ [(2, .inl x760), (0, .inr (some a0))] _ _
        refine tt_goto (tgt := 282) (pc := 298) dX7_init_298 (by decide) ?_
        refine tt_loc [(0, .inr (some a0)), (2, .inl x760)] (List.forall_mem_cons.mpr ⟨(.tail _ (.head _)), List.forall_mem_cons.mpr ⟨(.head _), fun _ z => absurd z List.not_mem_nil⟩⟩) ?_
        exact ih282 h756 wh756 hfh756 x760 (by omega) (by omega) (fill_step hwb.2.2.2 (by decide) tq753 eh756 gh756 (x := x754) (by omega) (y := x748) rfl (by omega) (by omega) mb) (by omega)
  have B256 : ∀ (n256 : Nat) (hb : List tC) (hwb : WT N pk τ hb) (hfb : Fr PMi τ h hb) (x761 : Int32) (lx761 : 0 ≤ x761.toInt) (ux761 : x761.toInt ≤ 8), 8 - x761.toInt < n256 → TT l D mX7_init Q0 0 0 256 [(0, .inr (some a0)), (2, .inl x761)] [] hb := by
    intro n256
    induction n256 with
    | zero =>
      intro hb hwb hfb x761 lx761 ux761 hn256
      exfalso
      omega
    | succ n256 ih256 =>
      intro hb hwb hfb x761 lx761 ux761 hn256
      refine tt_iload_n (pc := 256) dX7_init_256 (.tail _ (.head _)) ?_
      refine tt_aload_n (pc := 257) dX7_init_257 (.head _) ?_
      refine tw_geti (pc := 258) dX7_init_258 flX7_92 hwb ta0 (by decide) rfl (fun f762 x763 ef762 gf762 lx763 ux763 => ?_)
      refine tw_icmp (tgt := 280) (pc := 261) dX7_init_261 (by decide) (fun (c764 : x763.toInt ≤ x761.toInt) => ?_) (fun (c764 : ¬ (x763.toInt ≤ x761.toInt)) => ?_)
      · skip
        refine tw_iconst (pc := 280) dX7_init_280 (by decide) (fun x765 ex765 => ?_)
        refine tt_istore_n (pc := 281) dX7_init_281 (by decide) ?_
        show TT _ _ _ _ _ _ _ [(2, .inl x765), (0, .inr (some a0))] _ _
        refine tt_loc [(0, .inr (some a0)), (2, .inl x765)] (List.forall_mem_cons.mpr ⟨(.tail _ (.head _)), List.forall_mem_cons.mpr ⟨(.head _), fun _ z => absurd z List.not_mem_nil⟩⟩) ?_
        exact B282 9 hb hwb hfb x765 (by omega) (by omega) (fun i v hi => by omega) (by omega)
      · skip
        refine tt_aload_n (pc := 264) dX7_init_264 (.head _) ?_
        refine tw_getr (pc := 265) dX7_init_265 flX7_29 hwb ta0 (by decide) rfl (fun f766 q767 ef766 gf766 tq767 => ?_)
        refine tw_bipush (pc := 268) dX7_init_268 (by decide) (fun x768 ex768 => ?_)
        refine tt_iload_n (pc := 270) dX7_init_270 (.tail _ (.head _)) ?_
        refine tw_imul (c := 9) (pc := 271) dX7_init_271 (by omega) (by omega) (fun x769 ex769 => ?_)
        refine tw_iconst (pc := 272) dX7_init_272 (by decide) (fun x770 ex770 => ?_)
        refine tw_ist (P := (PEX 38)) (pc := 273) dX7_init_273 hwb tq767 rfl (by omega) (by omega) (by omega) (by omega) (by decide) (fun f771 h772 eh772 gh772 kh772 wh772 fh772 => ?_)
        have hfh772 := hfb.tr (fh772.weak (weak_PEX (fun _ => rfl)))
        obtain ⟨f773, E774, G775⟩ := fr_fld fh772 ta0 (by decide) ef762 gf762
        obtain ⟨f776, E777, G778⟩ := fr_fld fh772 ta0 (by decide) ef766 gf766
        refine tw_iinc (pc := 274) dX7_init_274 (.tail _ (.head _)) (by decide) (by decide) (by omega) (fun x779 ex779 => ?_)
        show TT _ _ _ _ _ _ _ [(2, .inl x779), (0, .inr (some a0))] _ _
        refine tt_goto (tgt := 256) (pc := 277) dX7_init_277 (by decide) ?_
        refine tt_loc [(0, .inr (some a0)), (2, .inl x779)] (List.forall_mem_cons.mpr ⟨(.tail _ (.head _)), List.forall_mem_cons.mpr ⟨(.head _), fun _ z => absurd z List.not_mem_nil⟩⟩) ?_
        exact ih256 h772 wh772 hfh772 x779 (by omega) (by omega) (by omega)
  refine tw_iconst (pc := 254) dX7_init_254 (by decide) (fun x780 ex780 => ?_)
  refine tt_istore_n (pc := 255) dX7_init_255 (by decide) ?_
  show TT _ _ _ _ _ _ _ [(2, .inl x780), (0, .inr (some a0))] _ _
  refine tt_loc [(0, .inr (some a0)), (2, .inl x780)] (List.forall_mem_cons.mpr ⟨(.tail _ (.head _)), List.forall_mem_cons.mpr ⟨(.head _), fun _ z => absurd z List.not_mem_nil⟩⟩) ?_
  exact B256 9 h hw hf x780 (by omega) (by omega) (by omega)
section TC6
variable {l : Launch} {D : va_G} {M : tM} {Q : Nat → tL → List tV → List tC → Prop} {kc ks pc : Nat} {loc : tL} {st : List tV} {h : List tC}
variable {N : Nat} {pk : Int} {τ : List Nat}
abbrev mod0 : tC := .inr (.inr (7, [.inl 0, .inl 0, .inr none, .inr none, .inr none, .inr none, .inr none, .inr none, .inr none, .inr none, .inr none, .inr none, .inr none, .inr none, .inr none, .inr none, .inr none, .inl 0, .inr none, .inr none, .inr none, .inr none, .inr none, .inr none, .inl 0, .inr none, .inr none, .inr none, .inr none, .inr none, .inr none]))
abbrev rhM : List Nat := [32, 33, 34, 35, 36, 37, 38, 39, 40, 41, 42, 43, 44, 45, 46, 48, 49, 50, 51, 52, 53, 55, 56, 57, 58, 59, 60]
abbrev csM : List tC := [.inl (1, List.replicate 12 0), .inl (1, List.replicate 12 0), .inl (0, List.replicate 12 0), .inl (0, List.replicate 12 0), .inl (0, List.replicate 12 0), .inl (0, List.replicate 8 0), .inl (0, List.replicate 64 0), .inl (0, List.replicate 64 0), .inl (0, List.replicate 64 0), .inl (0, List.replicate 24 0), .inl (0, List.replicate 384 0), .inl (0, List.replicate 384 0), .inl (0, List.replicate 384 0), .inl (0, List.replicate 384 0), .inl (1, List.replicate 384 0), .inl (0, List.replicate 768 0), .inl (0, List.replicate 768 0), .inl (0, List.replicate 64 0), .inl (0, List.replicate 64 0), .inl (0, List.replicate 512 0), .inl (0, List.replicate 512 0), .inl (0, List.replicate 64 0), .inl (0, List.replicate 64 0), .inl (0, List.replicate 64 0), .inl (0, List.replicate 64 0), .inl (0, List.replicate 64 0), .inl (0, List.replicate 64 0)]
abbrev fsM (n : Nat) (s : Int32) : List tV := [.inl 0, .inl s, .inr (some (n + 0)), .inr (some (n + 1)), .inr (some (n + 2)), .inr (some (n + 3)), .inr (some (n + 4)), .inr (some (n + 5)), .inr (some (n + 6)), .inr (some (n + 7)), .inr (some (n + 8)), .inr (some (n + 9)), .inr (some (n + 10)), .inr (some (n + 11)), .inr (some (n + 12)), .inr (some (n + 13)), .inr (some (n + 14)), .inl 0, .inr (some (n + 15)), .inr (some (n + 16)), .inr (some (n + 17)), .inr (some (n + 18)), .inr (some (n + 19)), .inr (some (n + 20)), .inl 0, .inr (some (n + 21)), .inr (some (n + 22)), .inr (some (n + 23)), .inr (some (n + 24)), .inr (some (n + 25)), .inr (some (n + 26))]
theorem rhM_ge : ∀ r ∈ rhM, 32 ≤ r := by decide
theorem rhM_nd : ∀ i, i < 27 → ∀ j, j < 27 → rhM[i]? = rhM[j]? → i = j := by decide
theorem ac_M (hN : 2 ≤ N) {τ' : List Nat} : AC N 0 τ' rhM csM := by
  refine AC.cons ?_ (AC.cons ?_ (AC.cons ?_ (AC.cons ?_ (AC.cons ?_ (AC.cons ?_ (AC.cons ?_ (AC.cons ?_ (AC.cons ?_ (AC.cons ?_ (AC.cons ?_ (AC.cons ?_ (AC.cons ?_ (AC.cons ?_ (AC.cons ?_ (AC.cons ?_ (AC.cons ?_ (AC.cons ?_ (AC.cons ?_ (AC.cons ?_ (AC.cons ?_ (AC.cons ?_ (AC.cons ?_ (AC.cons ?_ (AC.cons ?_ (AC.cons ?_ (AC.cons ?_ (AC.nil)))))))))))))))))))))))))))
  · exact conf_z (by decide) rfl ⟨by omega, by omega⟩
  · exact conf_z (by decide) rfl ⟨by omega, by omega⟩
  · exact conf_z (by decide) rfl ⟨by omega, by omega⟩
  · exact conf_z (by decide) rfl ⟨by omega, by omega⟩
  · exact conf_z (by decide) rfl ⟨by omega, by omega⟩
  · exact conf_z (by decide) rfl ⟨by omega, by omega⟩
  · exact conf_z (by decide) rfl ⟨by omega, by omega⟩
  · exact conf_z (by decide) rfl ⟨by omega, by omega⟩
  · exact conf_z (by decide) rfl ⟨by omega, by omega⟩
  · exact conf_z (by decide) rfl ⟨by omega, by omega⟩
  · exact conf_z (by decide) rfl ⟨by omega, by omega⟩
  · exact conf_z (by decide) rfl ⟨by omega, by omega⟩
  · exact conf_z (by decide) rfl ⟨by omega, by omega⟩
  · exact conf_z (by decide) rfl ⟨by omega, by omega⟩
  · exact conf_z (by decide) rfl ⟨by omega, by omega⟩
  · exact conf_z (by decide) rfl ⟨by omega, by omega⟩
  · exact conf_z (by decide) rfl ⟨by omega, by omega⟩
  · exact conf_z (by decide) rfl ⟨by omega, by omega⟩
  · exact conf_z (by decide) rfl ⟨by omega, by omega⟩
  · exact conf_z (by decide) rfl ⟨by omega, by omega⟩
  · exact conf_z (by decide) rfl ⟨by omega, by omega⟩
  · exact conf_z (by decide) rfl ⟨by omega, by omega⟩
  · exact conf_z (by decide) rfl ⟨by omega, by omega⟩
  · exact conf_z (by decide) rfl ⟨by omega, by omega⟩
  · exact conf_z (by decide) rfl ⟨by omega, by omega⟩
  · exact conf_z (by decide) rfl ⟨by omega, by omega⟩
  · exact conf_z (by decide) rfl ⟨by omega, by omega⟩
theorem wt_mod (hw : WT N 0 τ h) (hN : 2 ≤ N) {a : Nat} (ht : τ[a]? = some 29) (hns : ∀ (k r : Nat), τ[k]? = some r → r ≠ 7 ∧ r < 30) {s : Int32} (hs : s.toInt = N) : WT N 0 (τ.set a 7 ++ rhM) (HH h a 7 (fsM h.length s) csM) := by
  have lt := t_at ht
  have ha : a < h.length := by rw [hw.1]; exact lt
  have ac : AC N 0 (τ.set a 7 ++ rhM) rhM csM := ac_M hN
  have lk : ∀ j : Nat, (τ.set a 7 ++ rhM)[h.length + j]? = rhM[j]? := fun j => by
    rw [hw.1, List.getElem?_append_right (by rw [List.length_set]; omega), List.length_set]
    congr 1
    omega
  have rl : ∀ (k r : Nat), (τ.set a 7 ++ rhM)[k]? = some r → (k = a ∧ r = 7) ∨ (k ≠ a ∧ τ[k]? = some r ∧ r ≠ 7 ∧ r < 30) ∨ (∃ j, k = h.length + j ∧ rhM[j]? = some r ∧ j < 27) := by
    intro k r hk
    by_cases hl : k < τ.length
    · rw [List.getElem?_append_left (by rw [List.length_set]; exact hl)] at hk
      by_cases e : k = a
      · subst e
        rw [List.getElem?_set_self hl] at hk
        cases hk
        exact Or.inl ⟨rfl, rfl⟩
      · rw [List.getElem?_set_ne (Ne.symm e)] at hk
        exact Or.inr (Or.inl ⟨e, hk, hns k r hk⟩)
    · obtain ⟨j, rfl⟩ : ∃ j, k = h.length + j := ⟨k - h.length, by rw [hw.1]; omega⟩
      rw [lk] at hk
      exact Or.inr (Or.inr ⟨j, rfl, hk, t_at hk⟩)
  have zz : ∀ (k r t : Nat) (xs : List Int32), 30 ≤ r → (τ.set a 7 ++ rhM)[k]? = some r → (HH h a 7 (fsM h.length s) csM)[k]? = some (.inl (t, xs)) → ∀ x ∈ xs, x = 0 := by
    intro k r t xs hr hk hc x hx
    rcases rl k r hk with ⟨-, h7⟩ | ⟨-, -, -, h30⟩ | ⟨j, rfl, hj, hlt⟩
    · omega
    · omega
    · rw [HH_new] at hc
      have hm := List.mem_of_getElem? hc
      have al : ∀ c ∈ csM, ∀ t xs, c = .inl (t, xs) → ∃ n, xs = List.replicate n 0 := by
        intro c hc t xs e
        subst e
        simp only [csM, List.mem_cons, List.not_mem_nil, or_false] at hc
        rcases hc with hc | hc | hc | hc | hc | hc | hc | hc | hc | hc | hc | hc | hc | hc | hc | hc | hc | hc | hc | hc | hc | hc | hc | hc | hc | hc | hc <;> cases hc <;> exact ⟨_, rfl⟩
      obtain ⟨n, rfl⟩ := al _ hm t xs rfl
      exact List.eq_of_mem_replicate hx
  refine ⟨by rw [HH_len, List.length_append, List.length_set, hw.1]; rfl, fun k r c hk hc h29 => ?_, fun ka kw kv xs ys zs h1 h2 h3 g1 g2 g3 j x y z hx hy hz => ?_, fun k k' r hr h1 h2 => ?_⟩
  · rcases rl k r hk with ⟨rfl, rfl⟩ | ⟨hne, hk', -, -⟩ | ⟨j, rfl, hj, hlt⟩
    · rw [HH_at ha] at hc
      cases hc
      refine ⟨rfl, by decide, rfl, fun j ft v hj hv => ?_, fun z => by cases z⟩
      match j, hj, hv with

      | 0, hj, hv => cases hj; cases hv; exact ⟨by decide, by decide⟩
      | 1, hj, hv => cases hj; cases hv; exact ⟨by omega, by omega⟩
      | 2, hj, hv => cases hj; cases hv; exact lk 0
      | 3, hj, hv => cases hj; cases hv; exact lk 1
      | 4, hj, hv => cases hj; cases hv; exact lk 2
      | 5, hj, hv => cases hj; cases hv; exact lk 3
      | 6, hj, hv => cases hj; cases hv; exact lk 4
      | 7, hj, hv => cases hj; cases hv; exact lk 5
      | 8, hj, hv => cases hj; cases hv; exact lk 6
      | 9, hj, hv => cases hj; cases hv; exact lk 7
      | 10, hj, hv => cases hj; cases hv; exact lk 8
      | 11, hj, hv => cases hj; cases hv; exact lk 9
      | 12, hj, hv => cases hj; cases hv; exact lk 10
      | 13, hj, hv => cases hj; cases hv; exact lk 11
      | 14, hj, hv => cases hj; cases hv; exact lk 12
      | 15, hj, hv => cases hj; cases hv; exact lk 13
      | 16, hj, hv => cases hj; cases hv; exact lk 14
      | 17, hj, hv => cases hj; cases hv; exact ⟨by decide, by decide⟩
      | 18, hj, hv => cases hj; cases hv; exact lk 15
      | 19, hj, hv => cases hj; cases hv; exact lk 16
      | 20, hj, hv => cases hj; cases hv; exact lk 17
      | 21, hj, hv => cases hj; cases hv; exact lk 18
      | 22, hj, hv => cases hj; cases hv; exact lk 19
      | 23, hj, hv => cases hj; cases hv; exact lk 20
      | 24, hj, hv => cases hj; cases hv; exact ⟨by decide, by decide⟩
      | 25, hj, hv => cases hj; cases hv; exact lk 21
      | 26, hj, hv => cases hj; cases hv; exact lk 22
      | 27, hj, hv => cases hj; cases hv; exact lk 23
      | 28, hj, hv => cases hj; cases hv; exact lk 24
      | 29, hj, hv => cases hj; cases hv; exact lk 25
      | 30, hj, hv => cases hj; cases hv; exact lk 26
      | n + 31, hj, _ => simp [fts] at hj
    · rw [HH_ne hne (by rw [hw.1]; exact t_at hk')] at hc
      refine conf_as (fun q r' h9 hq => ?_) (hw.2.1 k r c hk' hc h29)
      rw [List.getElem?_append_left (by rw [List.length_set]; exact t_at hq), List.getElem?_set_ne (fun z => by subst z; rw [ht] at hq; cases hq; exact h9 rfl)]
      exact hq
    · rw [HH_new] at hc
      exact ac.2 j r c hj hc
  · have x0 := zz ka 42 0 xs (by decide) h1 g1 x (List.mem_of_getElem? hx)
    have y0 := zz kw 43 0 ys (by decide) h2 g2 y (List.mem_of_getElem? hy)
    subst x0; subst y0
    exact ⟨fun _ => by decide, fun c => absurd rfl c⟩
  · rcases rl k r h1 with ⟨rfl, rfl⟩ | ⟨hne, hk', h7, h30⟩ | ⟨j, rfl, hj, hlt⟩
    · rcases rl k' 7 h2 with ⟨rfl, -⟩ | ⟨-, -, h7', -⟩ | ⟨j', rfl, hj', hlt'⟩
      · rfl
      · exact absurd rfl h7'
      · have := rhM_ge _ (List.mem_of_getElem? hj')
        omega
    · rcases rl k' r h2 with ⟨rfl, h7'⟩ | ⟨-, hk'', -, -⟩ | ⟨j', rfl, hj', hlt'⟩
      · exact absurd h7' h7
      · exact hw.2.2.2 k k' r hr hk' hk''
      · have := rhM_ge _ (List.mem_of_getElem? hj')
        omega
    · have r32 := rhM_ge _ (List.mem_of_getElem? hj)
      rcases rl k' r h2 with ⟨rfl, h7'⟩ | ⟨-, -, -, h30'⟩ | ⟨j', rfl, hj', hlt'⟩
      · omega
      · omega
      · rw [rhM_nd j hlt j' hlt' (by rw [hj, hj'])]
theorem fr_same {P : Nat → Nat → Bool} {τ' : List Nat} {h' : List tC} (f : Fr P τ' h h') {k r : Nat} (p : ∀ j, P r j = true) (hk : τ'[k]? = some r) (hlt : k < h.length) : h'[k]? = h[k]? := by
  obtain ⟨f1, f2⟩ := f k r hk
  have hc := List.getElem?_eq_getElem hlt
  match hh : h[k], hc with
  | .inr (.inr (ci, fs)), hc =>
    obtain ⟨fs', e1, e2⟩ := f1 ci fs (by rw [hc])
    rw [e1, hc]
    congr 4
    apply List.ext_getElem?
    intro j
    exact e2 j (p j)
  | .inl (t, xs), hc => exact (f2 (fun ci fs z => by rw [hc] at z; cases z)).2 (p 0)
  | .inr (.inl (t, xs)), hc => exact (f2 (fun ci fs z => by rw [hc] at z; cases z)).2 (p 0)
/-- what the reference's constructor leaves -/
def MADM (N : Nat) (τ : List Nat) (h : List tC) (a : Nat) (h' : List tC) : Prop := ∃ τ' : List Nat, WT N 0 τ' h' ∧ (∀ k r, k ≠ a → τ[k]? = some r → τ'[k]? = some r) ∧ τ'[a]? = some 7 ∧ I1 τ' h' ∧ I2 τ' h' ∧ (∀ k, k ≠ a → k < h.length → h'[k]? = h[k]?) ∧ (∀ i v, ARV τ' h' 32 i v → v = 0) ∧ (∀ i v, ARV τ' h' 33 i v → v = 0) ∧ (∀ (i : Nat) (v : Int32), ARV τ' h' 37 i v → v.toInt = -1) ∧ PKC h' a 0

set_option maxHeartbeats 8000000 in
theorem g_X7_init (x : Int32) (hw : WT (cN x) 0 τ h) (a : Nat) (ht : τ[a]? = some 29) (ha0 : h[a]? = some mod0) (hns : ∀ (k r : Nat), τ[k]? = some r → r ≠ 7 ∧ r < 30) : TMc l D yX7_init cX7_init 3 none 1 20 27 5276 [.inr (some a), .inl x] h (fun rv h' => MADM (cN x) τ h a h' ∧ rv = none) := by
  refine tmc_of true rfl (by decide) (Nat.le_of_ble_eq_true rfl) ?_
  suffices HQ : ∀ Q0, Q0 = tRt cX7_init none (fun rv h' => MADM (cN x) τ h a h' ∧ rv = none) → TT l D mX7_init Q0 27 5276 0 [(0, .inr (some a)), (1, .inl x)] [] (HH h a 7 [.inl 0, .inl 0, .inr none, .inr none, .inr none, .inr none, .inr none, .inr none, .inr none, .inr none, .inr none, .inr none, .inr none, .inr none, .inr none, .inr none, .inr none, .inl 0, .inr none, .inr none, .inr none, .inr none, .inr none, .inr none, .inl 0, .inr none, .inr none, .inr none, .inr none, .inr none, .inr none] []) by
    rw [← HH_id ha0] at HQ
    exact HQ _ rfl
  intro Q0 hQ
  have ha : a < h.length := t_at ha0
  obtain ⟨hN2, hN8⟩ := cN_b x
  have bx := i_ty x
  have B251 : ∀ s : Int32, s.toInt = cN x → TT l D mX7_init Q0 0 0 251 [(0, .inr (some a)), (1, .inl x)] [.inl s, .inr (some a)] (HH h a 7 (fsM h.length 0) csM) := by
    intro s hs
    refine cc_put (pc := 251) dX7_init_251 flX7_92 (Or.inr ⟨rfl, _, _, rfl⟩) ha (Nat.le_of_ble_eq_true rfl) rfl ?_
    show TT l D mX7_init Q0 0 0 254 [(0, .inr (some a)), (1, .inl x)] [] (HH h a 7 (fsM h.length s) csM)
    have wA := wt_mod hw hN2 ht hns hs
    have lt := t_at ht
    have up : ∀ k r, k ≠ a → τ[k]? = some r → (τ.set a 7 ++ rhM)[k]? = some r := fun k r hk hr => by
      rw [List.getElem?_append_left (by rw [List.length_set]; exact t_at hr), List.getElem?_set_ne (Ne.symm hk)]
      exact hr
    have tA : (τ.set a 7 ++ rhM)[a]? = some 7 := by rw [List.getElem?_append_left (by rw [List.length_set]; exact lt), List.getElem?_set_self lt]
    have lk : ∀ j : Nat, (τ.set a 7 ++ rhM)[h.length + j]? = rhM[j]? := fun j => by
      rw [hw.1, List.getElem?_append_right (by rw [List.length_set]; omega), List.length_set]
      congr 1
      omega
    have ar : ∀ (j r i t n : Nat) (v : Int32), 30 ≤ r → rhM[j]? = some r → csM[j]? = some (.inl (t, List.replicate n 0)) → ARV (τ.set a 7 ++ rhM) (HH h a 7 (fsM h.length s) csM) r i v → v = 0 := by
      intro j r i t n v hr hj hc hv
      obtain ⟨k, t', xs, v1, v2, v3⟩ := hv
      have ek := wA.2.2.2 k (h.length + j) r (Or.inl hr) v1 (by rw [lk]; exact hj)
      subst ek
      rw [HH_new, hc] at v2
      cases v2
      exact (t_rep v3).symm
    refine tt_loc [(0, .inr (some a))] (by simp) ?_
    refine tt_mono ?_ (g_X7_initB hN2 hN8 (by decide) (by decide) wA a tA)
    intro pc' loc' st' h' hq
    rw [hQ]
    rcases hq with ⟨d, z, z2, wE, fE, mE, z3⟩ | ⟨x', d, -, hr, -⟩ | ⟨v, C, d, -, hr, -⟩
    · refine Or.inl ⟨d, rfl, z2, ⟨_, wE, up, tA, ?_, ?_, fun k hk hl => ?_, fun i v hv => ?_, fun i v hv => ?_, mE, fr_fld fE tA rfl (HH_at ha) rfl⟩, z3⟩
      · refine i1_fr fE rfl rfl rfl rfl ?_
        intro r l li k lo hi u hr hl hli a1 b1
        have := ar 7 39 _ _ _ k (by decide) rfl rfl a1
        subst this
        exact absurd b1 (bit_0 (by omega) hli)
      · refine i2_fr fE rfl rfl ?_
        intro l u ld a1 a2 hu
        have := ar 1 33 _ _ _ u (by decide) rfl rfl a1
        subst this
        exact absurd rfl hu
      · obtain ⟨r, hr⟩ : ∃ r, τ[k]? = some r := ⟨_, List.getElem?_eq_getElem (by rw [← hw.1]; exact hl)⟩
        have hr2 := hns k r hr
        have pm : ∀ j, PMi r j = true := fun j => by
          simp [PMi]
          omega
        rw [fr_same fE pm (up k r hk hr) (by rw [HH_len]; omega), HH_ne hk hl]
      · exact ar 0 32 _ _ _ v (by decide) rfl rfl (hv.back fE rfl)
      · exact ar 1 33 _ _ _ v (by decide) rfl rfl (hv.back fE rfl)
    · rcases hr with hr | ⟨hr, -⟩ <;> cases hr
    · cases hr
  refine tt_aload_n (pc := 0) dX7_init_0 (.head _) ?_
  refine tt_obj (pc := 1) dX7_init_1 olX7_1 oi_obj oc_obj (by decide) (Nat.le_of_ble_eq_true rfl) ?_
  refine tt_aload_n (pc := 4) dX7_init_4 (.head _) ?_
  refine tt_bipush (pc := 5) dX7_init_5 ?_
  refine cc_newa (kc := 26) (ks := 5264) (pc := 7) (t := 1) (len := 12) dX7_init_7 rfl (by decide) ka_boolean (by decide) (by decide) (by decide) ?_
  refine cc_put (pc := 9) dX7_init_9 flX7_7 (Or.inr ⟨rfl, _, _, rfl⟩) ha (Nat.le_of_ble_eq_true rfl) rfl ?_
  show TT l D mX7_init Q0 26 5264 12 [(0, .inr (some a)), (1, .inl x)] [] (HH h a 7 [.inl 0, .inl 0, .inr (some (h.length + 0)), .inr none, .inr none, .inr none, .inr none, .inr none, .inr none, .inr none, .inr none, .inr none, .inr none, .inr none, .inr none, .inr none, .inr none, .inl 0, .inr none, .inr none, .inr none, .inr none, .inr none, .inr none, .inl 0, .inr none, .inr none, .inr none, .inr none, .inr none, .inr none] [.inl (1, List.replicate 12 0)])
  refine tt_aload_n (pc := 12) dX7_init_12 (.head _) ?_
  refine tt_bipush (pc := 13) dX7_init_13 ?_
  refine cc_newa (kc := 25) (ks := 5252) (pc := 15) (t := 1) (len := 12) dX7_init_15 rfl (by decide) ka_boolean (by decide) (by decide) (by decide) ?_
  refine cc_put (pc := 17) dX7_init_17 flX7_13 (Or.inr ⟨rfl, _, _, rfl⟩) ha (Nat.le_of_ble_eq_true rfl) rfl ?_
  show TT l D mX7_init Q0 25 5252 20 [(0, .inr (some a)), (1, .inl x)] [] (HH h a 7 [.inl 0, .inl 0, .inr (some (h.length + 0)), .inr (some (h.length + 1)), .inr none, .inr none, .inr none, .inr none, .inr none, .inr none, .inr none, .inr none, .inr none, .inr none, .inr none, .inr none, .inr none, .inl 0, .inr none, .inr none, .inr none, .inr none, .inr none, .inr none, .inl 0, .inr none, .inr none, .inr none, .inr none, .inr none, .inr none] [.inl (1, List.replicate 12 0), .inl (1, List.replicate 12 0)])
  refine tt_aload_n (pc := 20) dX7_init_20 (.head _) ?_
  refine tt_bipush (pc := 21) dX7_init_21 ?_
  refine cc_newa (kc := 24) (ks := 5240) (pc := 23) (t := 0) (len := 12) dX7_init_23 rfl (by decide) ka_int (by decide) (by decide) (by decide) ?_
  refine cc_put (pc := 25) dX7_init_25 flX7_16 (Or.inr ⟨rfl, _, _, rfl⟩) ha (Nat.le_of_ble_eq_true rfl) rfl ?_
  show TT l D mX7_init Q0 24 5240 28 [(0, .inr (some a)), (1, .inl x)] [] (HH h a 7 [.inl 0, .inl 0, .inr (some (h.length + 0)), .inr (some (h.length + 1)), .inr (some (h.length + 2)), .inr none, .inr none, .inr none, .inr none, .inr none, .inr none, .inr none, .inr none, .inr none, .inr none, .inr none, .inr none, .inl 0, .inr none, .inr none, .inr none, .inr none, .inr none, .inr none, .inl 0, .inr none, .inr none, .inr none, .inr none, .inr none, .inr none] [.inl (1, List.replicate 12 0), .inl (1, List.replicate 12 0), .inl (0, List.replicate 12 0)])
  refine tt_aload_n (pc := 28) dX7_init_28 (.head _) ?_
  refine tt_bipush (pc := 29) dX7_init_29 ?_
  refine cc_newa (kc := 23) (ks := 5228) (pc := 31) (t := 0) (len := 12) dX7_init_31 rfl (by decide) ka_int (by decide) (by decide) (by decide) ?_
  refine cc_put (pc := 33) dX7_init_33 flX7_20 (Or.inr ⟨rfl, _, _, rfl⟩) ha (Nat.le_of_ble_eq_true rfl) rfl ?_
  show TT l D mX7_init Q0 23 5228 36 [(0, .inr (some a)), (1, .inl x)] [] (HH h a 7 [.inl 0, .inl 0, .inr (some (h.length + 0)), .inr (some (h.length + 1)), .inr (some (h.length + 2)), .inr (some (h.length + 3)), .inr none, .inr none, .inr none, .inr none, .inr none, .inr none, .inr none, .inr none, .inr none, .inr none, .inr none, .inl 0, .inr none, .inr none, .inr none, .inr none, .inr none, .inr none, .inl 0, .inr none, .inr none, .inr none, .inr none, .inr none, .inr none] [.inl (1, List.replicate 12 0), .inl (1, List.replicate 12 0), .inl (0, List.replicate 12 0), .inl (0, List.replicate 12 0)])
  refine tt_aload_n (pc := 36) dX7_init_36 (.head _) ?_
  refine tt_bipush (pc := 37) dX7_init_37 ?_
  refine cc_newa (kc := 22) (ks := 5216) (pc := 39) (t := 0) (len := 12) dX7_init_39 rfl (by decide) ka_int (by decide) (by decide) (by decide) ?_
  refine cc_put (pc := 41) dX7_init_41 flX7_23 (Or.inr ⟨rfl, _, _, rfl⟩) ha (Nat.le_of_ble_eq_true rfl) rfl ?_
  show TT l D mX7_init Q0 22 5216 44 [(0, .inr (some a)), (1, .inl x)] [] (HH h a 7 [.inl 0, .inl 0, .inr (some (h.length + 0)), .inr (some (h.length + 1)), .inr (some (h.length + 2)), .inr (some (h.length + 3)), .inr (some (h.length + 4)), .inr none, .inr none, .inr none, .inr none, .inr none, .inr none, .inr none, .inr none, .inr none, .inr none, .inl 0, .inr none, .inr none, .inr none, .inr none, .inr none, .inr none, .inl 0, .inr none, .inr none, .inr none, .inr none, .inr none, .inr none] [.inl (1, List.replicate 12 0), .inl (1, List.replicate 12 0), .inl (0, List.replicate 12 0), .inl (0, List.replicate 12 0), .inl (0, List.replicate 12 0)])
  refine tt_aload_n (pc := 44) dX7_init_44 (.head _) ?_
  refine tt_bipush (pc := 45) dX7_init_45 ?_
  refine cc_newa (kc := 21) (ks := 5208) (pc := 47) (t := 0) (len := 8) dX7_init_47 rfl (by decide) ka_int (by decide) (by decide) (by decide) ?_
  refine cc_put (pc := 49) dX7_init_49 flX7_26 (Or.inr ⟨rfl, _, _, rfl⟩) ha (Nat.le_of_ble_eq_true rfl) rfl ?_
  show TT l D mX7_init Q0 21 5208 52 [(0, .inr (some a)), (1, .inl x)] [] (HH h a 7 [.inl 0, .inl 0, .inr (some (h.length + 0)), .inr (some (h.length + 1)), .inr (some (h.length + 2)), .inr (some (h.length + 3)), .inr (some (h.length + 4)), .inr (some (h.length + 5)), .inr none, .inr none, .inr none, .inr none, .inr none, .inr none, .inr none, .inr none, .inr none, .inl 0, .inr none, .inr none, .inr none, .inr none, .inr none, .inr none, .inl 0, .inr none, .inr none, .inr none, .inr none, .inr none, .inr none] [.inl (1, List.replicate 12 0), .inl (1, List.replicate 12 0), .inl (0, List.replicate 12 0), .inl (0, List.replicate 12 0), .inl (0, List.replicate 12 0), .inl (0, List.replicate 8 0)])
  refine tt_aload_n (pc := 52) dX7_init_52 (.head _) ?_
  refine tt_bipush (pc := 53) dX7_init_53 ?_
  refine cc_newa (kc := 20) (ks := 5144) (pc := 55) (t := 0) (len := 64) dX7_init_55 rfl (by decide) ka_int (by decide) (by decide) (by decide) ?_
  refine cc_put (pc := 57) dX7_init_57 flX7_29 (Or.inr ⟨rfl, _, _, rfl⟩) ha (Nat.le_of_ble_eq_true rfl) rfl ?_
  show TT l D mX7_init Q0 20 5144 60 [(0, .inr (some a)), (1, .inl x)] [] (HH h a 7 [.inl 0, .inl 0, .inr (some (h.length + 0)), .inr (some (h.length + 1)), .inr (some (h.length + 2)), .inr (some (h.length + 3)), .inr (some (h.length + 4)), .inr (some (h.length + 5)), .inr (some (h.length + 6)), .inr none, .inr none, .inr none, .inr none, .inr none, .inr none, .inr none, .inr none, .inl 0, .inr none, .inr none, .inr none, .inr none, .inr none, .inr none, .inl 0, .inr none, .inr none, .inr none, .inr none, .inr none, .inr none] [.inl (1, List.replicate 12 0), .inl (1, List.replicate 12 0), .inl (0, List.replicate 12 0), .inl (0, List.replicate 12 0), .inl (0, List.replicate 12 0), .inl (0, List.replicate 8 0), .inl (0, List.replicate 64 0)])
  refine tt_aload_n (pc := 60) dX7_init_60 (.head _) ?_
  refine tt_bipush (pc := 61) dX7_init_61 ?_
  refine cc_newa (kc := 19) (ks := 5080) (pc := 63) (t := 0) (len := 64) dX7_init_63 rfl (by decide) ka_int (by decide) (by decide) (by decide) ?_
  refine cc_put (pc := 65) dX7_init_65 flX7_32 (Or.inr ⟨rfl, _, _, rfl⟩) ha (Nat.le_of_ble_eq_true rfl) rfl ?_
  show TT l D mX7_init Q0 19 5080 68 [(0, .inr (some a)), (1, .inl x)] [] (HH h a 7 [.inl 0, .inl 0, .inr (some (h.length + 0)), .inr (some (h.length + 1)), .inr (some (h.length + 2)), .inr (some (h.length + 3)), .inr (some (h.length + 4)), .inr (some (h.length + 5)), .inr (some (h.length + 6)), .inr (some (h.length + 7)), .inr none, .inr none, .inr none, .inr none, .inr none, .inr none, .inr none, .inl 0, .inr none, .inr none, .inr none, .inr none, .inr none, .inr none, .inl 0, .inr none, .inr none, .inr none, .inr none, .inr none, .inr none] [.inl (1, List.replicate 12 0), .inl (1, List.replicate 12 0), .inl (0, List.replicate 12 0), .inl (0, List.replicate 12 0), .inl (0, List.replicate 12 0), .inl (0, List.replicate 8 0), .inl (0, List.replicate 64 0), .inl (0, List.replicate 64 0)])
  refine tt_aload_n (pc := 68) dX7_init_68 (.head _) ?_
  refine tt_bipush (pc := 69) dX7_init_69 ?_
  refine cc_newa (kc := 18) (ks := 5016) (pc := 71) (t := 0) (len := 64) dX7_init_71 rfl (by decide) ka_int (by decide) (by decide) (by decide) ?_
  refine cc_put (pc := 73) dX7_init_73 flX7_35 (Or.inr ⟨rfl, _, _, rfl⟩) ha (Nat.le_of_ble_eq_true rfl) rfl ?_
  show TT l D mX7_init Q0 18 5016 76 [(0, .inr (some a)), (1, .inl x)] [] (HH h a 7 [.inl 0, .inl 0, .inr (some (h.length + 0)), .inr (some (h.length + 1)), .inr (some (h.length + 2)), .inr (some (h.length + 3)), .inr (some (h.length + 4)), .inr (some (h.length + 5)), .inr (some (h.length + 6)), .inr (some (h.length + 7)), .inr (some (h.length + 8)), .inr none, .inr none, .inr none, .inr none, .inr none, .inr none, .inl 0, .inr none, .inr none, .inr none, .inr none, .inr none, .inr none, .inl 0, .inr none, .inr none, .inr none, .inr none, .inr none, .inr none] [.inl (1, List.replicate 12 0), .inl (1, List.replicate 12 0), .inl (0, List.replicate 12 0), .inl (0, List.replicate 12 0), .inl (0, List.replicate 12 0), .inl (0, List.replicate 8 0), .inl (0, List.replicate 64 0), .inl (0, List.replicate 64 0), .inl (0, List.replicate 64 0)])
  refine tt_aload_n (pc := 76) dX7_init_76 (.head _) ?_
  refine tt_bipush (pc := 77) dX7_init_77 ?_
  refine cc_newa (kc := 17) (ks := 4992) (pc := 79) (t := 0) (len := 24) dX7_init_79 rfl (by decide) ka_int (by decide) (by decide) (by decide) ?_
  refine cc_put (pc := 81) dX7_init_81 flX7_38 (Or.inr ⟨rfl, _, _, rfl⟩) ha (Nat.le_of_ble_eq_true rfl) rfl ?_
  show TT l D mX7_init Q0 17 4992 84 [(0, .inr (some a)), (1, .inl x)] [] (HH h a 7 [.inl 0, .inl 0, .inr (some (h.length + 0)), .inr (some (h.length + 1)), .inr (some (h.length + 2)), .inr (some (h.length + 3)), .inr (some (h.length + 4)), .inr (some (h.length + 5)), .inr (some (h.length + 6)), .inr (some (h.length + 7)), .inr (some (h.length + 8)), .inr (some (h.length + 9)), .inr none, .inr none, .inr none, .inr none, .inr none, .inl 0, .inr none, .inr none, .inr none, .inr none, .inr none, .inr none, .inl 0, .inr none, .inr none, .inr none, .inr none, .inr none, .inr none] [.inl (1, List.replicate 12 0), .inl (1, List.replicate 12 0), .inl (0, List.replicate 12 0), .inl (0, List.replicate 12 0), .inl (0, List.replicate 12 0), .inl (0, List.replicate 8 0), .inl (0, List.replicate 64 0), .inl (0, List.replicate 64 0), .inl (0, List.replicate 64 0), .inl (0, List.replicate 24 0)])
  refine tt_aload_n (pc := 84) dX7_init_84 (.head _) ?_
  refine tt_sipush (pc := 85) dX7_init_85 ?_
  refine cc_newa (kc := 16) (ks := 4608) (pc := 88) (t := 0) (len := 384) dX7_init_88 rfl (by decide) ka_int (by decide) (by decide) (by decide) ?_
  refine cc_put (pc := 90) dX7_init_90 flX7_41 (Or.inr ⟨rfl, _, _, rfl⟩) ha (Nat.le_of_ble_eq_true rfl) rfl ?_
  show TT l D mX7_init Q0 16 4608 93 [(0, .inr (some a)), (1, .inl x)] [] (HH h a 7 [.inl 0, .inl 0, .inr (some (h.length + 0)), .inr (some (h.length + 1)), .inr (some (h.length + 2)), .inr (some (h.length + 3)), .inr (some (h.length + 4)), .inr (some (h.length + 5)), .inr (some (h.length + 6)), .inr (some (h.length + 7)), .inr (some (h.length + 8)), .inr (some (h.length + 9)), .inr (some (h.length + 10)), .inr none, .inr none, .inr none, .inr none, .inl 0, .inr none, .inr none, .inr none, .inr none, .inr none, .inr none, .inl 0, .inr none, .inr none, .inr none, .inr none, .inr none, .inr none] [.inl (1, List.replicate 12 0), .inl (1, List.replicate 12 0), .inl (0, List.replicate 12 0), .inl (0, List.replicate 12 0), .inl (0, List.replicate 12 0), .inl (0, List.replicate 8 0), .inl (0, List.replicate 64 0), .inl (0, List.replicate 64 0), .inl (0, List.replicate 64 0), .inl (0, List.replicate 24 0), .inl (0, List.replicate 384 0)])
  refine tt_aload_n (pc := 93) dX7_init_93 (.head _) ?_
  refine tt_sipush (pc := 94) dX7_init_94 ?_
  refine cc_newa (kc := 15) (ks := 4224) (pc := 97) (t := 0) (len := 384) dX7_init_97 rfl (by decide) ka_int (by decide) (by decide) (by decide) ?_
  refine cc_put (pc := 99) dX7_init_99 flX7_44 (Or.inr ⟨rfl, _, _, rfl⟩) ha (Nat.le_of_ble_eq_true rfl) rfl ?_
  show TT l D mX7_init Q0 15 4224 102 [(0, .inr (some a)), (1, .inl x)] [] (HH h a 7 [.inl 0, .inl 0, .inr (some (h.length + 0)), .inr (some (h.length + 1)), .inr (some (h.length + 2)), .inr (some (h.length + 3)), .inr (some (h.length + 4)), .inr (some (h.length + 5)), .inr (some (h.length + 6)), .inr (some (h.length + 7)), .inr (some (h.length + 8)), .inr (some (h.length + 9)), .inr (some (h.length + 10)), .inr (some (h.length + 11)), .inr none, .inr none, .inr none, .inl 0, .inr none, .inr none, .inr none, .inr none, .inr none, .inr none, .inl 0, .inr none, .inr none, .inr none, .inr none, .inr none, .inr none] [.inl (1, List.replicate 12 0), .inl (1, List.replicate 12 0), .inl (0, List.replicate 12 0), .inl (0, List.replicate 12 0), .inl (0, List.replicate 12 0), .inl (0, List.replicate 8 0), .inl (0, List.replicate 64 0), .inl (0, List.replicate 64 0), .inl (0, List.replicate 64 0), .inl (0, List.replicate 24 0), .inl (0, List.replicate 384 0), .inl (0, List.replicate 384 0)])
  refine tt_aload_n (pc := 102) dX7_init_102 (.head _) ?_
  refine tt_sipush (pc := 103) dX7_init_103 ?_
  refine cc_newa (kc := 14) (ks := 3840) (pc := 106) (t := 0) (len := 384) dX7_init_106 rfl (by decide) ka_int (by decide) (by decide) (by decide) ?_
  refine cc_put (pc := 108) dX7_init_108 flX7_47 (Or.inr ⟨rfl, _, _, rfl⟩) ha (Nat.le_of_ble_eq_true rfl) rfl ?_
  show TT l D mX7_init Q0 14 3840 111 [(0, .inr (some a)), (1, .inl x)] [] (HH h a 7 [.inl 0, .inl 0, .inr (some (h.length + 0)), .inr (some (h.length + 1)), .inr (some (h.length + 2)), .inr (some (h.length + 3)), .inr (some (h.length + 4)), .inr (some (h.length + 5)), .inr (some (h.length + 6)), .inr (some (h.length + 7)), .inr (some (h.length + 8)), .inr (some (h.length + 9)), .inr (some (h.length + 10)), .inr (some (h.length + 11)), .inr (some (h.length + 12)), .inr none, .inr none, .inl 0, .inr none, .inr none, .inr none, .inr none, .inr none, .inr none, .inl 0, .inr none, .inr none, .inr none, .inr none, .inr none, .inr none] [.inl (1, List.replicate 12 0), .inl (1, List.replicate 12 0), .inl (0, List.replicate 12 0), .inl (0, List.replicate 12 0), .inl (0, List.replicate 12 0), .inl (0, List.replicate 8 0), .inl (0, List.replicate 64 0), .inl (0, List.replicate 64 0), .inl (0, List.replicate 64 0), .inl (0, List.replicate 24 0), .inl (0, List.replicate 384 0), .inl (0, List.replicate 384 0), .inl (0, List.replicate 384 0)])
  refine tt_aload_n (pc := 111) dX7_init_111 (.head _) ?_
  refine tt_sipush (pc := 112) dX7_init_112 ?_
  refine cc_newa (kc := 13) (ks := 3456) (pc := 115) (t := 0) (len := 384) dX7_init_115 rfl (by decide) ka_int (by decide) (by decide) (by decide) ?_
  refine cc_put (pc := 117) dX7_init_117 flX7_50 (Or.inr ⟨rfl, _, _, rfl⟩) ha (Nat.le_of_ble_eq_true rfl) rfl ?_
  show TT l D mX7_init Q0 13 3456 120 [(0, .inr (some a)), (1, .inl x)] [] (HH h a 7 [.inl 0, .inl 0, .inr (some (h.length + 0)), .inr (some (h.length + 1)), .inr (some (h.length + 2)), .inr (some (h.length + 3)), .inr (some (h.length + 4)), .inr (some (h.length + 5)), .inr (some (h.length + 6)), .inr (some (h.length + 7)), .inr (some (h.length + 8)), .inr (some (h.length + 9)), .inr (some (h.length + 10)), .inr (some (h.length + 11)), .inr (some (h.length + 12)), .inr (some (h.length + 13)), .inr none, .inl 0, .inr none, .inr none, .inr none, .inr none, .inr none, .inr none, .inl 0, .inr none, .inr none, .inr none, .inr none, .inr none, .inr none] [.inl (1, List.replicate 12 0), .inl (1, List.replicate 12 0), .inl (0, List.replicate 12 0), .inl (0, List.replicate 12 0), .inl (0, List.replicate 12 0), .inl (0, List.replicate 8 0), .inl (0, List.replicate 64 0), .inl (0, List.replicate 64 0), .inl (0, List.replicate 64 0), .inl (0, List.replicate 24 0), .inl (0, List.replicate 384 0), .inl (0, List.replicate 384 0), .inl (0, List.replicate 384 0), .inl (0, List.replicate 384 0)])
  refine tt_aload_n (pc := 120) dX7_init_120 (.head _) ?_
  refine tt_sipush (pc := 121) dX7_init_121 ?_
  refine cc_newa (kc := 12) (ks := 3072) (pc := 124) (t := 1) (len := 384) dX7_init_124 rfl (by decide) ka_boolean (by decide) (by decide) (by decide) ?_
  refine cc_put (pc := 126) dX7_init_126 flX7_53 (Or.inr ⟨rfl, _, _, rfl⟩) ha (Nat.le_of_ble_eq_true rfl) rfl ?_
  show TT l D mX7_init Q0 12 3072 129 [(0, .inr (some a)), (1, .inl x)] [] (HH h a 7 [.inl 0, .inl 0, .inr (some (h.length + 0)), .inr (some (h.length + 1)), .inr (some (h.length + 2)), .inr (some (h.length + 3)), .inr (some (h.length + 4)), .inr (some (h.length + 5)), .inr (some (h.length + 6)), .inr (some (h.length + 7)), .inr (some (h.length + 8)), .inr (some (h.length + 9)), .inr (some (h.length + 10)), .inr (some (h.length + 11)), .inr (some (h.length + 12)), .inr (some (h.length + 13)), .inr (some (h.length + 14)), .inl 0, .inr none, .inr none, .inr none, .inr none, .inr none, .inr none, .inl 0, .inr none, .inr none, .inr none, .inr none, .inr none, .inr none] [.inl (1, List.replicate 12 0), .inl (1, List.replicate 12 0), .inl (0, List.replicate 12 0), .inl (0, List.replicate 12 0), .inl (0, List.replicate 12 0), .inl (0, List.replicate 8 0), .inl (0, List.replicate 64 0), .inl (0, List.replicate 64 0), .inl (0, List.replicate 64 0), .inl (0, List.replicate 24 0), .inl (0, List.replicate 384 0), .inl (0, List.replicate 384 0), .inl (0, List.replicate 384 0), .inl (0, List.replicate 384 0), .inl (1, List.replicate 384 0)])
  refine tt_aload_n (pc := 129) dX7_init_129 (.head _) ?_
  refine tt_sipush (pc := 130) dX7_init_130 ?_
  refine cc_newa (kc := 11) (ks := 2304) (pc := 133) (t := 0) (len := 768) dX7_init_133 rfl (by decide) ka_int (by decide) (by decide) (by decide) ?_
  refine cc_put (pc := 135) dX7_init_135 flX7_56 (Or.inr ⟨rfl, _, _, rfl⟩) ha (Nat.le_of_ble_eq_true rfl) rfl ?_
  show TT l D mX7_init Q0 11 2304 138 [(0, .inr (some a)), (1, .inl x)] [] (HH h a 7 [.inl 0, .inl 0, .inr (some (h.length + 0)), .inr (some (h.length + 1)), .inr (some (h.length + 2)), .inr (some (h.length + 3)), .inr (some (h.length + 4)), .inr (some (h.length + 5)), .inr (some (h.length + 6)), .inr (some (h.length + 7)), .inr (some (h.length + 8)), .inr (some (h.length + 9)), .inr (some (h.length + 10)), .inr (some (h.length + 11)), .inr (some (h.length + 12)), .inr (some (h.length + 13)), .inr (some (h.length + 14)), .inl 0, .inr (some (h.length + 15)), .inr none, .inr none, .inr none, .inr none, .inr none, .inl 0, .inr none, .inr none, .inr none, .inr none, .inr none, .inr none] [.inl (1, List.replicate 12 0), .inl (1, List.replicate 12 0), .inl (0, List.replicate 12 0), .inl (0, List.replicate 12 0), .inl (0, List.replicate 12 0), .inl (0, List.replicate 8 0), .inl (0, List.replicate 64 0), .inl (0, List.replicate 64 0), .inl (0, List.replicate 64 0), .inl (0, List.replicate 24 0), .inl (0, List.replicate 384 0), .inl (0, List.replicate 384 0), .inl (0, List.replicate 384 0), .inl (0, List.replicate 384 0), .inl (1, List.replicate 384 0), .inl (0, List.replicate 768 0)])
  refine tt_aload_n (pc := 138) dX7_init_138 (.head _) ?_
  refine tt_sipush (pc := 139) dX7_init_139 ?_
  refine cc_newa (kc := 10) (ks := 1536) (pc := 142) (t := 0) (len := 768) dX7_init_142 rfl (by decide) ka_int (by decide) (by decide) (by decide) ?_
  refine cc_put (pc := 144) dX7_init_144 flX7_59 (Or.inr ⟨rfl, _, _, rfl⟩) ha (Nat.le_of_ble_eq_true rfl) rfl ?_
  show TT l D mX7_init Q0 10 1536 147 [(0, .inr (some a)), (1, .inl x)] [] (HH h a 7 [.inl 0, .inl 0, .inr (some (h.length + 0)), .inr (some (h.length + 1)), .inr (some (h.length + 2)), .inr (some (h.length + 3)), .inr (some (h.length + 4)), .inr (some (h.length + 5)), .inr (some (h.length + 6)), .inr (some (h.length + 7)), .inr (some (h.length + 8)), .inr (some (h.length + 9)), .inr (some (h.length + 10)), .inr (some (h.length + 11)), .inr (some (h.length + 12)), .inr (some (h.length + 13)), .inr (some (h.length + 14)), .inl 0, .inr (some (h.length + 15)), .inr (some (h.length + 16)), .inr none, .inr none, .inr none, .inr none, .inl 0, .inr none, .inr none, .inr none, .inr none, .inr none, .inr none] [.inl (1, List.replicate 12 0), .inl (1, List.replicate 12 0), .inl (0, List.replicate 12 0), .inl (0, List.replicate 12 0), .inl (0, List.replicate 12 0), .inl (0, List.replicate 8 0), .inl (0, List.replicate 64 0), .inl (0, List.replicate 64 0), .inl (0, List.replicate 64 0), .inl (0, List.replicate 24 0), .inl (0, List.replicate 384 0), .inl (0, List.replicate 384 0), .inl (0, List.replicate 384 0), .inl (0, List.replicate 384 0), .inl (1, List.replicate 384 0), .inl (0, List.replicate 768 0), .inl (0, List.replicate 768 0)])
  refine tt_aload_n (pc := 147) dX7_init_147 (.head _) ?_
  refine tt_bipush (pc := 148) dX7_init_148 ?_
  refine cc_newa (kc := 9) (ks := 1472) (pc := 150) (t := 0) (len := 64) dX7_init_150 rfl (by decide) ka_int (by decide) (by decide) (by decide) ?_
  refine cc_put (pc := 152) dX7_init_152 flX7_62 (Or.inr ⟨rfl, _, _, rfl⟩) ha (Nat.le_of_ble_eq_true rfl) rfl ?_
  show TT l D mX7_init Q0 9 1472 155 [(0, .inr (some a)), (1, .inl x)] [] (HH h a 7 [.inl 0, .inl 0, .inr (some (h.length + 0)), .inr (some (h.length + 1)), .inr (some (h.length + 2)), .inr (some (h.length + 3)), .inr (some (h.length + 4)), .inr (some (h.length + 5)), .inr (some (h.length + 6)), .inr (some (h.length + 7)), .inr (some (h.length + 8)), .inr (some (h.length + 9)), .inr (some (h.length + 10)), .inr (some (h.length + 11)), .inr (some (h.length + 12)), .inr (some (h.length + 13)), .inr (some (h.length + 14)), .inl 0, .inr (some (h.length + 15)), .inr (some (h.length + 16)), .inr (some (h.length + 17)), .inr none, .inr none, .inr none, .inl 0, .inr none, .inr none, .inr none, .inr none, .inr none, .inr none] [.inl (1, List.replicate 12 0), .inl (1, List.replicate 12 0), .inl (0, List.replicate 12 0), .inl (0, List.replicate 12 0), .inl (0, List.replicate 12 0), .inl (0, List.replicate 8 0), .inl (0, List.replicate 64 0), .inl (0, List.replicate 64 0), .inl (0, List.replicate 64 0), .inl (0, List.replicate 24 0), .inl (0, List.replicate 384 0), .inl (0, List.replicate 384 0), .inl (0, List.replicate 384 0), .inl (0, List.replicate 384 0), .inl (1, List.replicate 384 0), .inl (0, List.replicate 768 0), .inl (0, List.replicate 768 0), .inl (0, List.replicate 64 0)])
  refine tt_aload_n (pc := 155) dX7_init_155 (.head _) ?_
  refine tt_bipush (pc := 156) dX7_init_156 ?_
  refine cc_newa (kc := 8) (ks := 1408) (pc := 158) (t := 0) (len := 64) dX7_init_158 rfl (by decide) ka_int (by decide) (by decide) (by decide) ?_
  refine cc_put (pc := 160) dX7_init_160 flX7_65 (Or.inr ⟨rfl, _, _, rfl⟩) ha (Nat.le_of_ble_eq_true rfl) rfl ?_
  show TT l D mX7_init Q0 8 1408 163 [(0, .inr (some a)), (1, .inl x)] [] (HH h a 7 [.inl 0, .inl 0, .inr (some (h.length + 0)), .inr (some (h.length + 1)), .inr (some (h.length + 2)), .inr (some (h.length + 3)), .inr (some (h.length + 4)), .inr (some (h.length + 5)), .inr (some (h.length + 6)), .inr (some (h.length + 7)), .inr (some (h.length + 8)), .inr (some (h.length + 9)), .inr (some (h.length + 10)), .inr (some (h.length + 11)), .inr (some (h.length + 12)), .inr (some (h.length + 13)), .inr (some (h.length + 14)), .inl 0, .inr (some (h.length + 15)), .inr (some (h.length + 16)), .inr (some (h.length + 17)), .inr (some (h.length + 18)), .inr none, .inr none, .inl 0, .inr none, .inr none, .inr none, .inr none, .inr none, .inr none] [.inl (1, List.replicate 12 0), .inl (1, List.replicate 12 0), .inl (0, List.replicate 12 0), .inl (0, List.replicate 12 0), .inl (0, List.replicate 12 0), .inl (0, List.replicate 8 0), .inl (0, List.replicate 64 0), .inl (0, List.replicate 64 0), .inl (0, List.replicate 64 0), .inl (0, List.replicate 24 0), .inl (0, List.replicate 384 0), .inl (0, List.replicate 384 0), .inl (0, List.replicate 384 0), .inl (0, List.replicate 384 0), .inl (1, List.replicate 384 0), .inl (0, List.replicate 768 0), .inl (0, List.replicate 768 0), .inl (0, List.replicate 64 0), .inl (0, List.replicate 64 0)])
  refine tt_aload_n (pc := 163) dX7_init_163 (.head _) ?_
  refine tt_sipush (pc := 164) dX7_init_164 ?_
  refine cc_newa (kc := 7) (ks := 896) (pc := 167) (t := 0) (len := 512) dX7_init_167 rfl (by decide) ka_int (by decide) (by decide) (by decide) ?_
  refine cc_put (pc := 169) dX7_init_169 flX7_68 (Or.inr ⟨rfl, _, _, rfl⟩) ha (Nat.le_of_ble_eq_true rfl) rfl ?_
  show TT l D mX7_init Q0 7 896 172 [(0, .inr (some a)), (1, .inl x)] [] (HH h a 7 [.inl 0, .inl 0, .inr (some (h.length + 0)), .inr (some (h.length + 1)), .inr (some (h.length + 2)), .inr (some (h.length + 3)), .inr (some (h.length + 4)), .inr (some (h.length + 5)), .inr (some (h.length + 6)), .inr (some (h.length + 7)), .inr (some (h.length + 8)), .inr (some (h.length + 9)), .inr (some (h.length + 10)), .inr (some (h.length + 11)), .inr (some (h.length + 12)), .inr (some (h.length + 13)), .inr (some (h.length + 14)), .inl 0, .inr (some (h.length + 15)), .inr (some (h.length + 16)), .inr (some (h.length + 17)), .inr (some (h.length + 18)), .inr (some (h.length + 19)), .inr none, .inl 0, .inr none, .inr none, .inr none, .inr none, .inr none, .inr none] [.inl (1, List.replicate 12 0), .inl (1, List.replicate 12 0), .inl (0, List.replicate 12 0), .inl (0, List.replicate 12 0), .inl (0, List.replicate 12 0), .inl (0, List.replicate 8 0), .inl (0, List.replicate 64 0), .inl (0, List.replicate 64 0), .inl (0, List.replicate 64 0), .inl (0, List.replicate 24 0), .inl (0, List.replicate 384 0), .inl (0, List.replicate 384 0), .inl (0, List.replicate 384 0), .inl (0, List.replicate 384 0), .inl (1, List.replicate 384 0), .inl (0, List.replicate 768 0), .inl (0, List.replicate 768 0), .inl (0, List.replicate 64 0), .inl (0, List.replicate 64 0), .inl (0, List.replicate 512 0)])
  refine tt_aload_n (pc := 172) dX7_init_172 (.head _) ?_
  refine tt_sipush (pc := 173) dX7_init_173 ?_
  refine cc_newa (kc := 6) (ks := 384) (pc := 176) (t := 0) (len := 512) dX7_init_176 rfl (by decide) ka_int (by decide) (by decide) (by decide) ?_
  refine cc_put (pc := 178) dX7_init_178 flX7_71 (Or.inr ⟨rfl, _, _, rfl⟩) ha (Nat.le_of_ble_eq_true rfl) rfl ?_
  show TT l D mX7_init Q0 6 384 181 [(0, .inr (some a)), (1, .inl x)] [] (HH h a 7 [.inl 0, .inl 0, .inr (some (h.length + 0)), .inr (some (h.length + 1)), .inr (some (h.length + 2)), .inr (some (h.length + 3)), .inr (some (h.length + 4)), .inr (some (h.length + 5)), .inr (some (h.length + 6)), .inr (some (h.length + 7)), .inr (some (h.length + 8)), .inr (some (h.length + 9)), .inr (some (h.length + 10)), .inr (some (h.length + 11)), .inr (some (h.length + 12)), .inr (some (h.length + 13)), .inr (some (h.length + 14)), .inl 0, .inr (some (h.length + 15)), .inr (some (h.length + 16)), .inr (some (h.length + 17)), .inr (some (h.length + 18)), .inr (some (h.length + 19)), .inr (some (h.length + 20)), .inl 0, .inr none, .inr none, .inr none, .inr none, .inr none, .inr none] [.inl (1, List.replicate 12 0), .inl (1, List.replicate 12 0), .inl (0, List.replicate 12 0), .inl (0, List.replicate 12 0), .inl (0, List.replicate 12 0), .inl (0, List.replicate 8 0), .inl (0, List.replicate 64 0), .inl (0, List.replicate 64 0), .inl (0, List.replicate 64 0), .inl (0, List.replicate 24 0), .inl (0, List.replicate 384 0), .inl (0, List.replicate 384 0), .inl (0, List.replicate 384 0), .inl (0, List.replicate 384 0), .inl (1, List.replicate 384 0), .inl (0, List.replicate 768 0), .inl (0, List.replicate 768 0), .inl (0, List.replicate 64 0), .inl (0, List.replicate 64 0), .inl (0, List.replicate 512 0), .inl (0, List.replicate 512 0)])
  refine tt_aload_n (pc := 181) dX7_init_181 (.head _) ?_
  refine tt_bipush (pc := 182) dX7_init_182 ?_
  refine cc_newa (kc := 5) (ks := 320) (pc := 184) (t := 0) (len := 64) dX7_init_184 rfl (by decide) ka_int (by decide) (by decide) (by decide) ?_
  refine cc_put (pc := 186) dX7_init_186 flX7_74 (Or.inr ⟨rfl, _, _, rfl⟩) ha (Nat.le_of_ble_eq_true rfl) rfl ?_
  show TT l D mX7_init Q0 5 320 189 [(0, .inr (some a)), (1, .inl x)] [] (HH h a 7 [.inl 0, .inl 0, .inr (some (h.length + 0)), .inr (some (h.length + 1)), .inr (some (h.length + 2)), .inr (some (h.length + 3)), .inr (some (h.length + 4)), .inr (some (h.length + 5)), .inr (some (h.length + 6)), .inr (some (h.length + 7)), .inr (some (h.length + 8)), .inr (some (h.length + 9)), .inr (some (h.length + 10)), .inr (some (h.length + 11)), .inr (some (h.length + 12)), .inr (some (h.length + 13)), .inr (some (h.length + 14)), .inl 0, .inr (some (h.length + 15)), .inr (some (h.length + 16)), .inr (some (h.length + 17)), .inr (some (h.length + 18)), .inr (some (h.length + 19)), .inr (some (h.length + 20)), .inl 0, .inr (some (h.length + 21)), .inr none, .inr none, .inr none, .inr none, .inr none] [.inl (1, List.replicate 12 0), .inl (1, List.replicate 12 0), .inl (0, List.replicate 12 0), .inl (0, List.replicate 12 0), .inl (0, List.replicate 12 0), .inl (0, List.replicate 8 0), .inl (0, List.replicate 64 0), .inl (0, List.replicate 64 0), .inl (0, List.replicate 64 0), .inl (0, List.replicate 24 0), .inl (0, List.replicate 384 0), .inl (0, List.replicate 384 0), .inl (0, List.replicate 384 0), .inl (0, List.replicate 384 0), .inl (1, List.replicate 384 0), .inl (0, List.replicate 768 0), .inl (0, List.replicate 768 0), .inl (0, List.replicate 64 0), .inl (0, List.replicate 64 0), .inl (0, List.replicate 512 0), .inl (0, List.replicate 512 0), .inl (0, List.replicate 64 0)])
  refine tt_aload_n (pc := 189) dX7_init_189 (.head _) ?_
  refine tt_bipush (pc := 190) dX7_init_190 ?_
  refine cc_newa (kc := 4) (ks := 256) (pc := 192) (t := 0) (len := 64) dX7_init_192 rfl (by decide) ka_int (by decide) (by decide) (by decide) ?_
  refine cc_put (pc := 194) dX7_init_194 flX7_77 (Or.inr ⟨rfl, _, _, rfl⟩) ha (Nat.le_of_ble_eq_true rfl) rfl ?_
  show TT l D mX7_init Q0 4 256 197 [(0, .inr (some a)), (1, .inl x)] [] (HH h a 7 [.inl 0, .inl 0, .inr (some (h.length + 0)), .inr (some (h.length + 1)), .inr (some (h.length + 2)), .inr (some (h.length + 3)), .inr (some (h.length + 4)), .inr (some (h.length + 5)), .inr (some (h.length + 6)), .inr (some (h.length + 7)), .inr (some (h.length + 8)), .inr (some (h.length + 9)), .inr (some (h.length + 10)), .inr (some (h.length + 11)), .inr (some (h.length + 12)), .inr (some (h.length + 13)), .inr (some (h.length + 14)), .inl 0, .inr (some (h.length + 15)), .inr (some (h.length + 16)), .inr (some (h.length + 17)), .inr (some (h.length + 18)), .inr (some (h.length + 19)), .inr (some (h.length + 20)), .inl 0, .inr (some (h.length + 21)), .inr (some (h.length + 22)), .inr none, .inr none, .inr none, .inr none] [.inl (1, List.replicate 12 0), .inl (1, List.replicate 12 0), .inl (0, List.replicate 12 0), .inl (0, List.replicate 12 0), .inl (0, List.replicate 12 0), .inl (0, List.replicate 8 0), .inl (0, List.replicate 64 0), .inl (0, List.replicate 64 0), .inl (0, List.replicate 64 0), .inl (0, List.replicate 24 0), .inl (0, List.replicate 384 0), .inl (0, List.replicate 384 0), .inl (0, List.replicate 384 0), .inl (0, List.replicate 384 0), .inl (1, List.replicate 384 0), .inl (0, List.replicate 768 0), .inl (0, List.replicate 768 0), .inl (0, List.replicate 64 0), .inl (0, List.replicate 64 0), .inl (0, List.replicate 512 0), .inl (0, List.replicate 512 0), .inl (0, List.replicate 64 0), .inl (0, List.replicate 64 0)])
  refine tt_aload_n (pc := 197) dX7_init_197 (.head _) ?_
  refine tt_bipush (pc := 198) dX7_init_198 ?_
  refine cc_newa (kc := 3) (ks := 192) (pc := 200) (t := 0) (len := 64) dX7_init_200 rfl (by decide) ka_int (by decide) (by decide) (by decide) ?_
  refine cc_put (pc := 202) dX7_init_202 flX7_80 (Or.inr ⟨rfl, _, _, rfl⟩) ha (Nat.le_of_ble_eq_true rfl) rfl ?_
  show TT l D mX7_init Q0 3 192 205 [(0, .inr (some a)), (1, .inl x)] [] (HH h a 7 [.inl 0, .inl 0, .inr (some (h.length + 0)), .inr (some (h.length + 1)), .inr (some (h.length + 2)), .inr (some (h.length + 3)), .inr (some (h.length + 4)), .inr (some (h.length + 5)), .inr (some (h.length + 6)), .inr (some (h.length + 7)), .inr (some (h.length + 8)), .inr (some (h.length + 9)), .inr (some (h.length + 10)), .inr (some (h.length + 11)), .inr (some (h.length + 12)), .inr (some (h.length + 13)), .inr (some (h.length + 14)), .inl 0, .inr (some (h.length + 15)), .inr (some (h.length + 16)), .inr (some (h.length + 17)), .inr (some (h.length + 18)), .inr (some (h.length + 19)), .inr (some (h.length + 20)), .inl 0, .inr (some (h.length + 21)), .inr (some (h.length + 22)), .inr (some (h.length + 23)), .inr none, .inr none, .inr none] [.inl (1, List.replicate 12 0), .inl (1, List.replicate 12 0), .inl (0, List.replicate 12 0), .inl (0, List.replicate 12 0), .inl (0, List.replicate 12 0), .inl (0, List.replicate 8 0), .inl (0, List.replicate 64 0), .inl (0, List.replicate 64 0), .inl (0, List.replicate 64 0), .inl (0, List.replicate 24 0), .inl (0, List.replicate 384 0), .inl (0, List.replicate 384 0), .inl (0, List.replicate 384 0), .inl (0, List.replicate 384 0), .inl (1, List.replicate 384 0), .inl (0, List.replicate 768 0), .inl (0, List.replicate 768 0), .inl (0, List.replicate 64 0), .inl (0, List.replicate 64 0), .inl (0, List.replicate 512 0), .inl (0, List.replicate 512 0), .inl (0, List.replicate 64 0), .inl (0, List.replicate 64 0), .inl (0, List.replicate 64 0)])
  refine tt_aload_n (pc := 205) dX7_init_205 (.head _) ?_
  refine tt_bipush (pc := 206) dX7_init_206 ?_
  refine cc_newa (kc := 2) (ks := 128) (pc := 208) (t := 0) (len := 64) dX7_init_208 rfl (by decide) ka_int (by decide) (by decide) (by decide) ?_
  refine cc_put (pc := 210) dX7_init_210 flX7_83 (Or.inr ⟨rfl, _, _, rfl⟩) ha (Nat.le_of_ble_eq_true rfl) rfl ?_
  show TT l D mX7_init Q0 2 128 213 [(0, .inr (some a)), (1, .inl x)] [] (HH h a 7 [.inl 0, .inl 0, .inr (some (h.length + 0)), .inr (some (h.length + 1)), .inr (some (h.length + 2)), .inr (some (h.length + 3)), .inr (some (h.length + 4)), .inr (some (h.length + 5)), .inr (some (h.length + 6)), .inr (some (h.length + 7)), .inr (some (h.length + 8)), .inr (some (h.length + 9)), .inr (some (h.length + 10)), .inr (some (h.length + 11)), .inr (some (h.length + 12)), .inr (some (h.length + 13)), .inr (some (h.length + 14)), .inl 0, .inr (some (h.length + 15)), .inr (some (h.length + 16)), .inr (some (h.length + 17)), .inr (some (h.length + 18)), .inr (some (h.length + 19)), .inr (some (h.length + 20)), .inl 0, .inr (some (h.length + 21)), .inr (some (h.length + 22)), .inr (some (h.length + 23)), .inr (some (h.length + 24)), .inr none, .inr none] [.inl (1, List.replicate 12 0), .inl (1, List.replicate 12 0), .inl (0, List.replicate 12 0), .inl (0, List.replicate 12 0), .inl (0, List.replicate 12 0), .inl (0, List.replicate 8 0), .inl (0, List.replicate 64 0), .inl (0, List.replicate 64 0), .inl (0, List.replicate 64 0), .inl (0, List.replicate 24 0), .inl (0, List.replicate 384 0), .inl (0, List.replicate 384 0), .inl (0, List.replicate 384 0), .inl (0, List.replicate 384 0), .inl (1, List.replicate 384 0), .inl (0, List.replicate 768 0), .inl (0, List.replicate 768 0), .inl (0, List.replicate 64 0), .inl (0, List.replicate 64 0), .inl (0, List.replicate 512 0), .inl (0, List.replicate 512 0), .inl (0, List.replicate 64 0), .inl (0, List.replicate 64 0), .inl (0, List.replicate 64 0), .inl (0, List.replicate 64 0)])
  refine tt_aload_n (pc := 213) dX7_init_213 (.head _) ?_
  refine tt_bipush (pc := 214) dX7_init_214 ?_
  refine cc_newa (kc := 1) (ks := 64) (pc := 216) (t := 0) (len := 64) dX7_init_216 rfl (by decide) ka_int (by decide) (by decide) (by decide) ?_
  refine cc_put (pc := 218) dX7_init_218 flX7_86 (Or.inr ⟨rfl, _, _, rfl⟩) ha (Nat.le_of_ble_eq_true rfl) rfl ?_
  show TT l D mX7_init Q0 1 64 221 [(0, .inr (some a)), (1, .inl x)] [] (HH h a 7 [.inl 0, .inl 0, .inr (some (h.length + 0)), .inr (some (h.length + 1)), .inr (some (h.length + 2)), .inr (some (h.length + 3)), .inr (some (h.length + 4)), .inr (some (h.length + 5)), .inr (some (h.length + 6)), .inr (some (h.length + 7)), .inr (some (h.length + 8)), .inr (some (h.length + 9)), .inr (some (h.length + 10)), .inr (some (h.length + 11)), .inr (some (h.length + 12)), .inr (some (h.length + 13)), .inr (some (h.length + 14)), .inl 0, .inr (some (h.length + 15)), .inr (some (h.length + 16)), .inr (some (h.length + 17)), .inr (some (h.length + 18)), .inr (some (h.length + 19)), .inr (some (h.length + 20)), .inl 0, .inr (some (h.length + 21)), .inr (some (h.length + 22)), .inr (some (h.length + 23)), .inr (some (h.length + 24)), .inr (some (h.length + 25)), .inr none] [.inl (1, List.replicate 12 0), .inl (1, List.replicate 12 0), .inl (0, List.replicate 12 0), .inl (0, List.replicate 12 0), .inl (0, List.replicate 12 0), .inl (0, List.replicate 8 0), .inl (0, List.replicate 64 0), .inl (0, List.replicate 64 0), .inl (0, List.replicate 64 0), .inl (0, List.replicate 24 0), .inl (0, List.replicate 384 0), .inl (0, List.replicate 384 0), .inl (0, List.replicate 384 0), .inl (0, List.replicate 384 0), .inl (1, List.replicate 384 0), .inl (0, List.replicate 768 0), .inl (0, List.replicate 768 0), .inl (0, List.replicate 64 0), .inl (0, List.replicate 64 0), .inl (0, List.replicate 512 0), .inl (0, List.replicate 512 0), .inl (0, List.replicate 64 0), .inl (0, List.replicate 64 0), .inl (0, List.replicate 64 0), .inl (0, List.replicate 64 0), .inl (0, List.replicate 64 0)])
  refine tt_aload_n (pc := 221) dX7_init_221 (.head _) ?_
  refine tt_bipush (pc := 222) dX7_init_222 ?_
  refine cc_newa (kc := 0) (ks := 0) (pc := 224) (t := 0) (len := 64) dX7_init_224 rfl (by decide) ka_int (by decide) (by decide) (by decide) ?_
  refine cc_put (pc := 226) dX7_init_226 flX7_89 (Or.inr ⟨rfl, _, _, rfl⟩) ha (Nat.le_of_ble_eq_true rfl) rfl ?_
  show TT l D mX7_init Q0 0 0 229 [(0, .inr (some a)), (1, .inl x)] [] (HH h a 7 [.inl 0, .inl 0, .inr (some (h.length + 0)), .inr (some (h.length + 1)), .inr (some (h.length + 2)), .inr (some (h.length + 3)), .inr (some (h.length + 4)), .inr (some (h.length + 5)), .inr (some (h.length + 6)), .inr (some (h.length + 7)), .inr (some (h.length + 8)), .inr (some (h.length + 9)), .inr (some (h.length + 10)), .inr (some (h.length + 11)), .inr (some (h.length + 12)), .inr (some (h.length + 13)), .inr (some (h.length + 14)), .inl 0, .inr (some (h.length + 15)), .inr (some (h.length + 16)), .inr (some (h.length + 17)), .inr (some (h.length + 18)), .inr (some (h.length + 19)), .inr (some (h.length + 20)), .inl 0, .inr (some (h.length + 21)), .inr (some (h.length + 22)), .inr (some (h.length + 23)), .inr (some (h.length + 24)), .inr (some (h.length + 25)), .inr (some (h.length + 26))] [.inl (1, List.replicate 12 0), .inl (1, List.replicate 12 0), .inl (0, List.replicate 12 0), .inl (0, List.replicate 12 0), .inl (0, List.replicate 12 0), .inl (0, List.replicate 8 0), .inl (0, List.replicate 64 0), .inl (0, List.replicate 64 0), .inl (0, List.replicate 64 0), .inl (0, List.replicate 24 0), .inl (0, List.replicate 384 0), .inl (0, List.replicate 384 0), .inl (0, List.replicate 384 0), .inl (0, List.replicate 384 0), .inl (1, List.replicate 384 0), .inl (0, List.replicate 768 0), .inl (0, List.replicate 768 0), .inl (0, List.replicate 64 0), .inl (0, List.replicate 64 0), .inl (0, List.replicate 512 0), .inl (0, List.replicate 512 0), .inl (0, List.replicate 64 0), .inl (0, List.replicate 64 0), .inl (0, List.replicate 64 0), .inl (0, List.replicate 64 0), .inl (0, List.replicate 64 0), .inl (0, List.replicate 64 0)])
  refine tt_aload_n (pc := 229) dX7_init_229 (.head _) ?_
  refine tt_iload_n (pc := 230) dX7_init_230 (.tail _ (.head _)) ?_
  refine tw_iconst (pc := 231) dX7_init_231 (by decide) (fun z2 hz2 => ?_)
  refine tw_icmp (tgt := 239) (pc := 232) dX7_init_232 (by decide) (fun c1 => ?_) (fun c1 => ?_)
  · have c1 : x.toInt ≥ z2.toInt := c1
    refine tt_iload_n (pc := 239) dX7_init_239 (.tail _ (.head _)) ?_
    refine tw_bipush (pc := 240) dX7_init_240 (by decide) (fun z8 hz8 => ?_)
    refine tw_icmp (tgt := 250) (pc := 242) dX7_init_242 (by decide) (fun c2 => ?_) (fun c2 => ?_)
    · have c2 : x.toInt ≤ z8.toInt := c2
      refine tt_iload_n (pc := 250) dX7_init_250 (.tail _ (.head _)) ?_
      refine B251 x ?_
      unfold cN
      rw [if_neg (by omega), if_neg (by omega)]
      omega
    · have c2 : ¬ x.toInt ≤ z8.toInt := c2
      refine tw_bipush (pc := 245) dX7_init_245 (by decide) (fun z9 hz9 => ?_)
      refine tt_goto (tgt := 251) (pc := 247) dX7_init_247 (by decide) ?_
      refine B251 z9 ?_
      unfold cN
      rw [if_neg (by omega), if_pos (by omega)]
      omega
  · have c1 : ¬ x.toInt ≥ z2.toInt := c1
    refine tw_iconst (pc := 235) dX7_init_235 (by decide) (fun z9 hz9 => ?_)
    refine tt_goto (tgt := 251) (pc := 236) dX7_init_236 (by decide) ?_
    refine B251 z9 ?_
    unfold cN
    rw [if_pos (by omega)]
    omega
end TC6
