theorem weak_PMg_PMo : ∀ r j, PMo r j = true → PMg r j = true := fun r j h => by simp only [PMo, Bool.and_eq_true] at h; exact h.2
theorem weak_PMr_PM : ∀ r j, PM r j = true → PMr r j = true := fun r j h => weak_PMr_PMq r j (weak_PMq_PM r j h)
abbrev mX7_come : tM := (RX7, cX7_come, 11, 7, 179, false)
set_option maxHeartbeats 4000000 in
theorem g_X7_come {l : Launch} {D : va_G} {N : Nat} {pk : Int} {τ : List Nat} (hN2 : 2 ≤ N) (hN8 : N ≤ 8) (hp0 : 0 ≤ pk) (hp64 : pk ≤ 64) {h : List tC} (hw : WT N pk τ h) (a0 : Nat) (ta0 : τ[a0]? = some 7) (a1 : Int32) (la1 : 0 ≤ a1.toInt) (ua1 : a1.toInt ≤ 23) (hI : I1 τ h) (hq : ∀ (k : Nat) (xs : List Int32) (x : Int32), τ[k]? = some 41 → h[k]? = some (.inl (0, xs)) → xs[a1.toNatClampNeg]? = some x → 1 ≤ x.toInt) : TMc l D yX7_come cX7_come 11 (some .int) 7 179 0 0 [.inr (some a0), .inl a1] h (fun rv h' => WT N pk τ h' ∧ Fr PM τ h h' ∧ I1 τ h' ∧ ∃ x : Int32, rv = some (.inl x) ∧ -2147483648 ≤ x.toInt ∧ x.toInt ≤ 2147483647) := by
  refine tmc_of false rfl (by decide) (Nat.le_of_ble_eq_true rfl) ?_
  suffices HQ : ∀ Q0, Q0 = tRt cX7_come (some .int) (fun rv h' => WT N pk τ h' ∧ Fr PM τ h h' ∧ I1 τ h' ∧ ∃ x : Int32, rv = some (.inl x) ∧ -2147483648 ≤ x.toInt ∧ x.toInt ≤ 2147483647) → TT l D mX7_come Q0 0 0 0 [(0, .inr (some a0)), (1, .inl a1)] [] h from HQ _ rfl
  intro Q0 hQ
  have hf : Fr PM τ h h := Fr.rf
  have B85 : ∀ (n85 : Nat) (hb : List tC) (hwb : WT N pk τ hb) (hfb : Fr PM τ h hb) (x268 : Int32) (lx268 : 0 ≤ x268.toInt) (ux268 : x268.toInt ≤ 368) (x269 : Int32) (lx269 : 0 ≤ x269.toInt) (ux269 : x269.toInt ≤ 11) (x270 : Int32) (lx270 : 0 ≤ x270.toInt) (ux270 : x270.toInt ≤ (N : Int) - 1) (x271 : Int32) (lx271 : 0 ≤ x271.toInt) (ux271 : x271.toInt ≤ 4) (x272 : Int32) (lx272 : 0 ≤ x272.toInt) (ux272 : x272.toInt ≤ 63) (x273 : Int32) (x274 : Int32) (x275 : Int32) (lx275 : 0 ≤ x275.toInt) (ux275 : x275.toInt ≤ 1) (x276 : Int32) (lx276 : 0 ≤ x276.toInt) (ux276 : x276.toInt ≤ 383) (rel85 : (x271.toInt ≠ 4 → x272.toInt ≤ 7) ∧ (x271.toInt ≠ 0 → -1 ≤ x273.toInt ∧ x273.toInt ≤ 79)) (w85 : W15 τ hb a1.toNatClampNeg) (h10 : 16 * a1.toInt ≤ x276.toInt ∧ x268.toInt = 16 * a1.toInt) (hIb : I1 τ hb), 383 - x276.toInt < n85 → TT l D mX7_come Q0 0 0 85 [(0, .inr (some a0)), (1, .inl a1), (2, .inl x268), (3, .inl x269), (4, .inl x270), (5, .inl x271), (6, .inl x272), (7, .inl x273), (8, .inl x274), (9, .inl x275), (10, .inl x276)] [] hb := by
    intro n85
    induction n85 with
    | zero =>
      intro hb hwb hfb x268 lx268 ux268 x269 lx269 ux269 x270 lx270 ux270 x271 lx271 ux271 x272 lx272 ux272 x273 x274 x275 lx275 ux275 x276 lx276 ux276 rel85 w85 h10 hIb hn85
      exfalso
      omega
    | succ n85 ih85 =>
      intro hb hwb hfb x268 lx268 ux268 x269 lx269 ux269 x270 lx270 ux270 x271 lx271 ux271 x272 lx272 ux272 x273 x274 x275 lx275 ux275 x276 lx276 ux276 rel85 w85 h10 hIb hn85
      have bx273 := i_ty x273
      have bx274 := i_ty x274
      refine tt_iload (pc := 85) dX7_come_85 (.tail _ (.tail _ (.tail _ (.tail _ (.tail _ (.tail _ (.tail _ (.tail _ (.tail _ (.tail _ (.head _))))))))))) ?_
      refine tt_iload_n (pc := 87) dX7_come_87 (.tail _ (.tail _ (.head _))) ?_
      refine tt_aload_n (pc := 88) dX7_come_88 (.head _) ?_
      refine tw_getr (pc := 89) dX7_come_89 flX7_38 hwb ta0 (by decide) rfl (fun f277 q278 ef277 gf277 tq278 => ?_)
      refine tt_iload_n (pc := 92) dX7_come_92 (.tail _ (.head _)) ?_
      refine tw_ild (pc := 93) dX7_come_93 hwb tq278 rfl (by omega) (by omega) (fun f280 x279 ef280 gf280 lx279 ux279 => ?_)
      have w2 := w85 _ _ _ tq278 ef280 gf280
      refine tw_iadd (pc := 94) dX7_come_94 (by omega) (fun x281 ex281 => ?_)
      refine tw_icmp (tgt := 184) (pc := 95) dX7_come_95 (by decide) (fun (c282 : x281.toInt ≤ x276.toInt) => ?_) (fun (c282 : ¬ (x281.toInt ≤ x276.toInt)) => ?_)
      · skip
        refine tt_iload (pc := 184) dX7_come_184 (.tail _ (.tail _ (.tail _ (.tail _ (.tail _ (.tail _ (.tail _ (.tail _ (.tail _ (.head _)))))))))) ?_
        refine tw_if (tgt := 210) (pc := 186) dX7_come_186 (by decide) (fun (c283 : x275.toInt = 0) => ?_) (fun (c283 : ¬ (x275.toInt = 0)) => ?_)
        · skip
          refine tt_iload (pc := 210) dX7_come_210 (.tail _ (.tail _ (.tail _ (.tail _ (.tail _ (.head _)))))) ?_
          by_cases s284 : x271.toInt = 0
          · refine tw_tableK (c := 0) (off := 32) (tgt := 244) (pc := 212) dX7_come_212 (by decide) s284 (by decide) (by decide) (by decide) (by decide) ?_
            refine tt_aload_n (pc := 244) dX7_come_244 (.head _) ?_
            refine tt_iload (pc := 245) dX7_come_245 (.tail _ (.tail _ (.tail _ (.tail _ (.head _))))) ?_
            refine tt_iload_n (pc := 247) dX7_come_247 (.tail _ (.tail _ (.tail _ (.head _)))) ?_
            refine tt_iload (pc := 248) dX7_come_248 (.tail _ (.tail _ (.tail _ (.tail _ (.tail _ (.tail _ (.head _))))))) ?_
            refine tt_iload (pc := 250) dX7_come_250 (.tail _ (.tail _ (.tail _ (.tail _ (.tail _ (.tail _ (.tail _ (.head _)))))))) ?_
            refine tt_iload (pc := 252) dX7_come_252 (.tail _ (.tail _ (.tail _ (.tail _ (.tail _ (.tail _ (.tail _ (.tail _ (.head _))))))))) ?_
            refine tw_callV (kc := 0) (ks := 0) (mc := 0) (ms := 0) (as := [.inl x270, .inl x269, .inl x272, .inl x273, .inl x274]) (st := []) (pc := 254) hwb ta0 (by decide) dX7_come_254 lkX7_173 imX7_noted seX7_noted rfl rfl (by decide) (by decide) (Nat.le_of_ble_eq_true rfl) (g_X7_noted hN2 hN8 hp0 hp64 hwb a0 ta0 x270 (by omega) (by omega) x269 (by omega) (by omega) x272 (by omega) (by omega) x273 x274 hIb) (fun rv h285 qh285 => ?_)
            obtain ⟨wh285, fh285, Jh285, rfl⟩ := qh285
            have hfh285 := hfb.tr fh285
            show TT _ _ _ _ _ _ _ _ [] _
            refine tt_goto (tgt := 314) (pc := 257) dX7_come_257 (by decide) ?_
            refine tt_iload (pc := 314) dX7_come_314 (.tail _ (.tail _ (.tail _ (.tail _ (.tail _ (.head _)))))) ?_
            refine tt_stop ?_
            rw [hQ]
            exact Or.inr (Or.inl ⟨x271, dX7_come_316, rfl, Or.inl rfl, wh285, hfh285, Jh285, x271, rfl, by omega, by omega⟩)
          by_cases s286 : x271.toInt = 1
          · refine tw_tableK (c := 1) (off := 48) (tgt := 260) (pc := 212) dX7_come_212 (by decide) s286 (by decide) (by decide) (by decide) (by decide) ?_
            refine tt_aload_n (pc := 260) dX7_come_260 (.head _) ?_
            refine tt_iload (pc := 261) dX7_come_261 (.tail _ (.tail _ (.tail _ (.tail _ (.head _))))) ?_
            refine tt_iload_n (pc := 263) dX7_come_263 (.tail _ (.tail _ (.tail _ (.head _)))) ?_
            refine tt_iload (pc := 264) dX7_come_264 (.tail _ (.tail _ (.tail _ (.tail _ (.tail _ (.tail _ (.head _))))))) ?_
            refine tt_iload (pc := 266) dX7_come_266 (.tail _ (.tail _ (.tail _ (.tail _ (.tail _ (.tail _ (.tail _ (.head _)))))))) ?_
            refine tt_iload (pc := 268) dX7_come_268 (.tail _ (.tail _ (.tail _ (.tail _ (.tail _ (.tail _ (.tail _ (.tail _ (.head _))))))))) ?_
            refine tw_callV (kc := 0) (ks := 0) (mc := 0) (ms := 0) (as := [.inl x270, .inl x269, .inl x272, .inl x273, .inl x274]) (st := []) (pc := 270) hwb ta0 (by decide) dX7_come_270 lkX7_177 imX7_mapped seX7_mapped rfl rfl (by decide) (by decide) (Nat.le_of_ble_eq_true rfl) (g_X7_mapped hN2 hN8 hp0 hp64 hwb a0 ta0 x270 (by omega) (by omega) x269 (by omega) (by omega) x272 (by omega) (by omega) x273 (by omega) (by omega) x274) (fun rv h287 qh287 => ?_)
            obtain ⟨wh287, fh287, rfl⟩ := qh287
            have hfh287 := hfb.tr (fh287.weak weak_PMk_PM)
            have Jh287 := i1_fr fh287 (by decide) (by decide) (by decide) (by decide) hIb
            show TT _ _ _ _ _ _ _ _ [] _
            refine tt_goto (tgt := 314) (pc := 273) dX7_come_273 (by decide) ?_
            refine tt_iload (pc := 314) dX7_come_314 (.tail _ (.tail _ (.tail _ (.tail _ (.tail _ (.head _)))))) ?_
            refine tt_stop ?_
            rw [hQ]
            exact Or.inr (Or.inl ⟨x271, dX7_come_316, rfl, Or.inl rfl, wh287, hfh287, Jh287, x271, rfl, by omega, by omega⟩)
          by_cases s288 : x271.toInt = 2
          · refine tw_tableK (c := 2) (off := 64) (tgt := 276) (pc := 212) dX7_come_212 (by decide) s288 (by decide) (by decide) (by decide) (by decide) ?_
            refine tt_aload_n (pc := 276) dX7_come_276 (.head _) ?_
            refine tt_iload (pc := 277) dX7_come_277 (.tail _ (.tail _ (.tail _ (.tail _ (.head _))))) ?_
            refine tt_iload_n (pc := 279) dX7_come_279 (.tail _ (.tail _ (.tail _ (.head _)))) ?_
            refine tt_iload (pc := 280) dX7_come_280 (.tail _ (.tail _ (.tail _ (.tail _ (.tail _ (.tail _ (.head _))))))) ?_
            refine tt_iload (pc := 282) dX7_come_282 (.tail _ (.tail _ (.tail _ (.tail _ (.tail _ (.tail _ (.tail _ (.head _)))))))) ?_
            refine tw_callV (kc := 0) (ks := 0) (mc := 0) (ms := 0) (as := [.inl x270, .inl x269, .inl x272, .inl x273]) (st := []) (pc := 284) hwb ta0 (by decide) dX7_come_284 lkX7_180 imX7_withdrawn seX7_withdrawn rfl rfl (by decide) (by decide) (Nat.le_of_ble_eq_true rfl) (g_X7_withdrawn hN2 hN8 hp0 hp64 hwb a0 ta0 x270 (by omega) (by omega) x269 (by omega) (by omega) x272 (by omega) (by omega) x273 (by omega) (by omega)) (fun rv h289 qh289 => ?_)
            obtain ⟨wh289, fh289, rfl⟩ := qh289
            have hfh289 := hfb.tr (fh289.weak weak_PMk_PM)
            have Jh289 := i1_fr fh289 (by decide) (by decide) (by decide) (by decide) hIb
            show TT _ _ _ _ _ _ _ _ [] _
            refine tt_goto (tgt := 314) (pc := 287) dX7_come_287 (by decide) ?_
            refine tt_iload (pc := 314) dX7_come_314 (.tail _ (.tail _ (.tail _ (.tail _ (.tail _ (.head _)))))) ?_
            refine tt_stop ?_
            rw [hQ]
            exact Or.inr (Or.inl ⟨x271, dX7_come_316, rfl, Or.inl rfl, wh289, hfh289, Jh289, x271, rfl, by omega, by omega⟩)
          by_cases s290 : x271.toInt = 3
          · refine tw_tableK (c := 3) (off := 78) (tgt := 290) (pc := 212) dX7_come_212 (by decide) s290 (by decide) (by decide) (by decide) (by decide) ?_
            refine tt_aload_n (pc := 290) dX7_come_290 (.head _) ?_
            refine tt_iload (pc := 291) dX7_come_291 (.tail _ (.tail _ (.tail _ (.tail _ (.head _))))) ?_
            refine tt_iload_n (pc := 293) dX7_come_293 (.tail _ (.tail _ (.tail _ (.head _)))) ?_
            refine tt_iload (pc := 294) dX7_come_294 (.tail _ (.tail _ (.tail _ (.tail _ (.tail _ (.tail _ (.head _))))))) ?_
            refine tt_iload (pc := 296) dX7_come_296 (.tail _ (.tail _ (.tail _ (.tail _ (.tail _ (.tail _ (.tail _ (.head _)))))))) ?_
            refine tw_callV (kc := 0) (ks := 0) (mc := 0) (ms := 0) (as := [.inl x270, .inl x269, .inl x272, .inl x273]) (st := []) (pc := 298) hwb ta0 (by decide) dX7_come_298 lkX7_183 imX7_released seX7_released rfl rfl (by decide) (by decide) (Nat.le_of_ble_eq_true rfl) (g_X7_released hN2 hN8 hp0 hp64 hwb a0 ta0 x270 (by omega) (by omega) x269 (by omega) (by omega) x272 (by omega) (by omega) x273 (by omega) (by omega)) (fun rv h291 qh291 => ?_)
            obtain ⟨wh291, fh291, rfl⟩ := qh291
            have hfh291 := hfb.tr (fh291.weak weak_PMk_PM)
            have Jh291 := i1_fr fh291 (by decide) (by decide) (by decide) (by decide) hIb
            show TT _ _ _ _ _ _ _ _ [] _
            refine tt_goto (tgt := 314) (pc := 301) dX7_come_301 (by decide) ?_
            refine tt_iload (pc := 314) dX7_come_314 (.tail _ (.tail _ (.tail _ (.tail _ (.tail _ (.head _)))))) ?_
            refine tt_stop ?_
            rw [hQ]
            exact Or.inr (Or.inl ⟨x271, dX7_come_316, rfl, Or.inl rfl, wh291, hfh291, Jh291, x271, rfl, by omega, by omega⟩)
          refine tw_tableD (tgt := 304) (pc := 212) dX7_come_212 (by decide) (by omega) (by decide) ?_
          refine tt_aload_n (pc := 304) dX7_come_304 (.head _) ?_
          refine tt_iload (pc := 305) dX7_come_305 (.tail _ (.tail _ (.tail _ (.tail _ (.tail _ (.tail _ (.head _))))))) ?_
          refine tt_iload (pc := 307) dX7_come_307 (.tail _ (.tail _ (.tail _ (.tail _ (.head _))))) ?_
          refine tt_iload (pc := 309) dX7_come_309 (.tail _ (.tail _ (.tail _ (.tail _ (.tail _ (.tail _ (.tail _ (.head _)))))))) ?_
          refine tw_callV (kc := 0) (ks := 0) (mc := 0) (ms := 0) (as := [.inl x272, .inl x270, .inl x273]) (st := []) (pc := 311) hwb ta0 (by decide) dX7_come_311 lkX7_186 imX7_go seX7_go rfl rfl (by decide) (by decide) (Nat.le_of_ble_eq_true rfl) (g_X7_go hN2 hN8 hp0 hp64 hwb a0 ta0 x272 (by omega) (by omega) x270 (by omega) (by omega) x273 (by omega) (by omega) hIb) (fun rv h292 qh292 => ?_)
          obtain ⟨wh292, fh292, rfl⟩ := qh292
          have hfh292 := hfb.tr (fh292.weak weak_PMk_PM)
          have Jh292 := i1_fr fh292 (by decide) (by decide) (by decide) (by decide) hIb
          show TT _ _ _ _ _ _ _ _ [] _
          refine tt_iload (pc := 314) dX7_come_314 (.tail _ (.tail _ (.tail _ (.tail _ (.tail _ (.head _)))))) ?_
          refine tt_stop ?_
          rw [hQ]
          exact Or.inr (Or.inl ⟨x271, dX7_come_316, rfl, Or.inl rfl, wh292, hfh292, Jh292, x271, rfl, by omega, by omega⟩)
        · skip
          refine tt_iload (pc := 189) dX7_come_189 (.tail _ (.tail _ (.tail _ (.tail _ (.tail _ (.head _)))))) ?_
          refine tw_iconst (pc := 191) dX7_come_191 (by decide) (fun x293 ex293 => ?_)
          refine tw_icmp (tgt := 204) (pc := 192) dX7_come_192 (by decide) (fun (c294 : x271.toInt ≠ x293.toInt) => ?_) (fun (c294 : ¬ (x271.toInt ≠ x293.toInt)) => ?_)
          · skip
            refine tt_iload (pc := 204) dX7_come_204 (.tail _ (.tail _ (.tail _ (.tail _ (.tail _ (.head _)))))) ?_
            refine tw_bipush (pc := 206) dX7_come_206 (by decide) (fun x295 ex295 => ?_)
            refine tw_iadd (pc := 208) dX7_come_208 (by omega) (fun x296 ex296 => ?_)
            refine tt_stop ?_
            rw [hQ]
            exact Or.inr (Or.inl ⟨x296, dX7_come_209, rfl, Or.inl rfl, hwb, hfb, hIb, x296, rfl, by omega, by omega⟩)
          · skip
            refine tt_aload_n (pc := 195) dX7_come_195 (.head _) ?_
            refine tw_getr (pc := 196) dX7_come_196 flX7_83 hwb ta0 (by decide) rfl (fun f297 q298 ef297 gf297 tq298 => ?_)
            refine tt_iload (pc := 199) dX7_come_199 (.tail _ (.tail _ (.tail _ (.tail _ (.tail _ (.tail _ (.head _))))))) ?_
            refine tw_bipush (pc := 201) dX7_come_201 (by decide) (fun x299 ex299 => ?_)
            refine tw_ist (P := (PEX 58)) (pc := 203) dX7_come_203 hwb tq298 rfl (by omega) (by omega) (by omega) (by omega) (by decide) (fun f300 h301 eh301 gh301 kh301 wh301 fh301 => ?_)
            have hfh301 := hfb.tr (fh301.weak (weak_PEX (fun _ => rfl)))
            have Jh301 := i1_fr fh301 (by decide) (by decide) (by decide) (by decide) hIb
            obtain ⟨f302, E303, G304⟩ := fr_fld fh301 ta0 (by decide) ef277 gf277
            have E305 := fr_arrI fh301 tq278 (by decide) ef280
            obtain ⟨f306, E307, G308⟩ := fr_fld fh301 ta0 (by decide) ef297 gf297
            refine tt_iload (pc := 204) dX7_come_204 (.tail _ (.tail _ (.tail _ (.tail _ (.tail _ (.head _)))))) ?_
            refine tw_bipush (pc := 206) dX7_come_206 (by decide) (fun x309 ex309 => ?_)
            refine tw_iadd (pc := 208) dX7_come_208 (by omega) (fun x310 ex310 => ?_)
            refine tt_stop ?_
            rw [hQ]
            exact Or.inr (Or.inl ⟨x310, dX7_come_209, rfl, Or.inl rfl, wh301, hfh301, Jh301, x310, rfl, by omega, by omega⟩)
      · skip
        obtain ⟨fs9, e9, -⟩ := wt_obj hwb ta0 (by decide)
        obtain ⟨k1, g1, t1⟩ := wt_ref (k := 12) hwb ta0 (by decide) e9 rfl
        obtain ⟨k2, g2, t2⟩ := wt_ref (k := 13) hwb ta0 (by decide) e9 rfl
        obtain ⟨k3, g3, t3⟩ := wt_ref (k := 14) hwb ta0 (by decide) e9 rfl
        obtain ⟨xs, ex, lx, bx⟩ := wt_ints hwb t1 rfl (by decide)
        obtain ⟨ys, ey, ly, by9⟩ := wt_ints hwb t2 rfl (by decide)
        obtain ⟨zs, ez, lz, bz⟩ := wt_ints hwb t3 rfl (by decide)
        have m0 : k1 ≠ a0 := t_neq t1 ta0 (by decide)
        have m4 : k2 ≠ a0 := t_neq t2 ta0 (by decide)
        have m1 : k1 ≠ k2 := t_neq t1 t2 (by decide)
        have m2 : k1 ≠ k3 := t_neq t1 t3 (by decide)
        have m3 : k2 ≠ k3 := t_neq t2 t3 (by decide)
        have mlt : x276.toNatClampNeg < 384 := i_lt (by omega) (by omega)
        obtain ⟨i8, ei8⟩ : ∃ i8 : Int32, i8.toInt = x276.toInt + 1 := ⟨x276 + 1, by rw [i_add (by show _ ≤ x276.toInt + 1 ∧ x276.toInt + 1 ≤ _; omega)]; rfl⟩
        have ilt : i8.toNatClampNeg < 384 := i_lt (by omega) (by omega)
        obtain ⟨x8, hx8⟩ : ∃ x, xs[i8.toNatClampNeg]? = some x := ⟨_, List.getElem?_eq_getElem (by rw [lx]; exact ilt)⟩
        obtain ⟨y8, hy8⟩ : ∃ x, ys[i8.toNatClampNeg]? = some x := ⟨_, List.getElem?_eq_getElem (by rw [ly]; exact ilt)⟩
        obtain ⟨z8, hz8⟩ : ∃ x, zs[i8.toNatClampNeg]? = some x := ⟨_, List.getElem?_eq_getElem (by rw [lz]; exact ilt)⟩
        have rl8 := hwb.2.2.1 _ _ _ _ _ _ t1 t2 t3 ex ey ez _ _ _ _ hx8 hy8 hz8
        have bx8 := bx _ (List.mem_of_getElem? hx8)
        have by8 := by9 _ (List.mem_of_getElem? hy8)
        refine tt_aload_n (pc := 98) dX7_come_98 (.head _) ?_
        refine tt_get (pc := 99) dX7_come_99 flX7_41 e9 g1 ?_
        refine tt_iload (pc := 102) dX7_come_102 (.tail _ (.tail _ (.tail _ (.tail _ (.tail _ (.tail _ (.tail _ (.tail _ (.tail _ (.tail _ (.head _))))))))))) ?_
        refine tt_aload_n (pc := 104) dX7_come_104 (.head _) ?_
        refine tt_get (pc := 105) dX7_come_105 flX7_41 e9 g1 ?_
        refine tt_iload (pc := 108) dX7_come_108 (.tail _ (.tail _ (.tail _ (.tail _ (.tail _ (.tail _ (.tail _ (.tail _ (.tail _ (.tail _ (.head _))))))))))) ?_
        refine tw_iconst (pc := 110) dX7_come_110 (by decide) (fun oi313 eoi313 => ?_)
        refine tw_iadd (pc := 111) dX7_come_111 (by omega) (fun i313 ei313 => ?_)
        have qi313 : i313 = i8 := Int32.toInt_inj.mp (by omega)
        rw [qi313]
        refine tt_iald (pc := 112) dX7_come_112 ex (i_nn (by omega)) hx8 ?_
        refine tt_iast (pc := 113) dX7_come_113 ex (i_nn (by omega)) (by rw [lx]; exact mlt) ?_
        refine tt_aload_n (pc := 114) dX7_come_114 (.head _) ?_
        refine tt_get (pc := 115) dX7_come_115 flX7_44 (by rw [List.getElem?_set_ne m0]; exact e9) g2 ?_
        refine tt_iload (pc := 118) dX7_come_118 (.tail _ (.tail _ (.tail _ (.tail _ (.tail _ (.tail _ (.tail _ (.tail _ (.tail _ (.tail _ (.head _))))))))))) ?_
        refine tt_aload_n (pc := 120) dX7_come_120 (.head _) ?_
        refine tt_get (pc := 121) dX7_come_121 flX7_44 (by rw [List.getElem?_set_ne m0]; exact e9) g2 ?_
        refine tt_iload (pc := 124) dX7_come_124 (.tail _ (.tail _ (.tail _ (.tail _ (.tail _ (.tail _ (.tail _ (.tail _ (.tail _ (.tail _ (.head _))))))))))) ?_
        refine tw_iconst (pc := 126) dX7_come_126 (by decide) (fun oi314 eoi314 => ?_)
        refine tw_iadd (pc := 127) dX7_come_127 (by omega) (fun i314 ei314 => ?_)
        have qi314 : i314 = i8 := Int32.toInt_inj.mp (by omega)
        rw [qi314]
        refine tt_iald (pc := 128) dX7_come_128 (by rw [List.getElem?_set_ne m1]; exact ey) (i_nn (by omega)) hy8 ?_
        refine tt_iast (pc := 129) dX7_come_129 (by rw [List.getElem?_set_ne m1]; exact ey) (i_nn (by omega)) (by rw [ly]; exact mlt) ?_
        refine tt_aload_n (pc := 130) dX7_come_130 (.head _) ?_
        refine tt_get (pc := 131) dX7_come_131 flX7_47 (by rw [List.getElem?_set_ne m4, List.getElem?_set_ne m0]; exact e9) g3 ?_
        refine tt_iload (pc := 134) dX7_come_134 (.tail _ (.tail _ (.tail _ (.tail _ (.tail _ (.tail _ (.tail _ (.tail _ (.tail _ (.tail _ (.head _))))))))))) ?_
        refine tt_aload_n (pc := 136) dX7_come_136 (.head _) ?_
        refine tt_get (pc := 137) dX7_come_137 flX7_47 (by rw [List.getElem?_set_ne m4, List.getElem?_set_ne m0]; exact e9) g3 ?_
        refine tt_iload (pc := 140) dX7_come_140 (.tail _ (.tail _ (.tail _ (.tail _ (.tail _ (.tail _ (.tail _ (.tail _ (.tail _ (.tail _ (.head _))))))))))) ?_
        refine tw_iconst (pc := 142) dX7_come_142 (by decide) (fun oi315 eoi315 => ?_)
        refine tw_iadd (pc := 143) dX7_come_143 (by omega) (fun i315 ei315 => ?_)
        have qi315 : i315 = i8 := Int32.toInt_inj.mp (by omega)
        rw [qi315]
        refine tt_iald (pc := 144) dX7_come_144 (by rw [List.getElem?_set_ne m3, List.getElem?_set_ne m2]; exact ez) (i_nn (by omega)) hz8 ?_
        refine tt_iast (pc := 145) dX7_come_145 (by rw [List.getElem?_set_ne m3, List.getElem?_set_ne m2]; exact ez) (i_nn (by omega)) (by rw [lz]; exact mlt) ?_
        have wh311 := wt_put3 hwb t1 t2 t3 ex ey ez x276.toNatClampNeg (x := x8) (y := y8) (z := z8) bx8.1 bx8.2 by8.1 by8.2 rl8.1 rl8.2
        have fh311 := fr_put3 (P := PMr) (xs' := xs.set x276.toNatClampNeg x8) (ys' := ys.set x276.toNatClampNeg y8) (zs' := zs.set x276.toNatClampNeg z8) hwb.1 t1 t2 t3 ex ey ez (by decide) (by decide) (by decide)
        obtain ⟨h311, eH⟩ : ∃ z, z = (((hb.set k1 (.inl (0, xs.set x276.toNatClampNeg x8))).set k2 (.inl (0, ys.set x276.toNatClampNeg y8))).set k3 (.inl (0, zs.set x276.toNatClampNeg z8))) := ⟨_, rfl⟩
        rw [← eH] at wh311 fh311 ⊢
        have hfh311 := hfb.tr (fh311.weak weak_PMr_PM)
        have Jh311 := i1_fr fh311 (by decide) (by decide) (by decide) (by decide) hIb
        have Vh311 := w15_fr fh311 (by decide) w85
        refine tt_aload_n (pc := 146) dX7_come_146 (.head _) ?_
        refine tw_getr (pc := 147) dX7_come_147 flX7_50 wh311 ta0 (by decide) rfl (fun f316 q317 ef316 gf316 tq317 => ?_)
        refine tt_iload (pc := 150) dX7_come_150 (.tail _ (.tail _ (.tail _ (.tail _ (.tail _ (.tail _ (.tail _ (.tail _ (.tail _ (.tail _ (.head _))))))))))) ?_
        refine tt_aload_n (pc := 152) dX7_come_152 (.head _) ?_
        refine tt_get (pc := 153) dX7_come_153 flX7_50 ef316 gf316 ?_
        refine tt_iload (pc := 156) dX7_come_156 (.tail _ (.tail _ (.tail _ (.tail _ (.tail _ (.tail _ (.tail _ (.tail _ (.tail _ (.tail _ (.head _))))))))))) ?_
        refine tw_iconst (pc := 158) dX7_come_158 (by decide) (fun x318 ex318 => ?_)
        refine tw_iadd (pc := 159) dX7_come_159 (by omega) (fun x319 ex319 => ?_)
        refine tw_ild (pc := 160) dX7_come_160 wh311 tq317 rfl (by omega) (by omega) (fun f321 x320 ef321 gf321 lx320 ux320 => ?_)
        refine tw_ist (P := (PEX 45)) (pc := 161) dX7_come_161 wh311 tq317 rfl (by omega) (by omega) (by omega) (by omega) (by decide) (fun f322 h323 eh323 gh323 kh323 wh323 fh323 => ?_)
        have hfh323 := hfh311.tr (fh323.weak (weak_PEX (fun _ => rfl)))
        have Jh323 := i1_fr fh323 (by decide) (by decide) (by decide) (by decide) Jh311
        have Vh323 := w15_fr fh323 (by decide) Vh311
        obtain ⟨f324, E325, G326⟩ := fr_fld fh323 ta0 (by decide) ef316 gf316
        refine tt_aload_n (pc := 162) dX7_come_162 (.head _) ?_
        refine tw_getr (pc := 163) dX7_come_163 flX7_53 wh323 ta0 (by decide) rfl (fun f327 q328 ef327 gf327 tq328 => ?_)
        refine tt_iload (pc := 166) dX7_come_166 (.tail _ (.tail _ (.tail _ (.tail _ (.tail _ (.tail _ (.tail _ (.tail _ (.tail _ (.tail _ (.head _))))))))))) ?_
        refine tt_aload_n (pc := 168) dX7_come_168 (.head _) ?_
        refine tt_get (pc := 169) dX7_come_169 flX7_53 ef327 gf327 ?_
        refine tt_iload (pc := 172) dX7_come_172 (.tail _ (.tail _ (.tail _ (.tail _ (.tail _ (.tail _ (.tail _ (.tail _ (.tail _ (.tail _ (.head _))))))))))) ?_
        refine tw_iconst (pc := 174) dX7_come_174 (by decide) (fun x329 ex329 => ?_)
        refine tw_iadd (pc := 175) dX7_come_175 (by omega) (fun x330 ex330 => ?_)
        refine tw_zld (pc := 176) dX7_come_176 wh323 tq328 rfl (by omega) (by omega) (fun f332 x331 ef332 gf332 lx331 ux331 => ?_)
        refine tw_zst (P := (PEX 46)) (pc := 177) dX7_come_177 wh323 tq328 rfl (by omega) (by omega) (by omega) (by omega) (by decide) (fun f333 h334 eh334 gh334 kh334 wh334 fh334 => ?_)
        have hfh334 := hfh323.tr (fh334.weak (weak_PEX (fun _ => rfl)))
        have Jh334 := i1_fr fh334 (by decide) (by decide) (by decide) (by decide) Jh323
        have Vh334 := w15_fr fh334 (by decide) Vh323
        obtain ⟨f335, E336, G337⟩ := fr_fld fh334 ta0 (by decide) E325 G326
        have E338 := fr_arrI fh334 tq317 (by decide) gh323
        obtain ⟨f339, E340, G341⟩ := fr_fld fh334 ta0 (by decide) ef327 gf327
        refine tw_iinc (pc := 178) dX7_come_178 (.tail _ (.tail _ (.tail _ (.tail _ (.tail _ (.tail _ (.tail _ (.tail _ (.tail _ (.tail _ (.head _))))))))))) (by decide) (by decide) (by omega) (fun x342 ex342 => ?_)
        show TT _ _ _ _ _ _ _ [(10, .inl x342), (0, .inr (some a0)), (1, .inl a1), (2, .inl x268), (3, .inl x269), (4, .inl x270), (5, .inl x271), (6, .inl x272), (7, .inl x273), (8, .inl x274), (9, .inl x275)] _ _
        refine tt_goto (tgt := 85) (pc := 181) dX7_come_181 (by decide) ?_
        refine tt_loc [(0, .inr (some a0)), (1, .inl a1), (2, .inl x268), (3, .inl x269), (4, .inl x270), (5, .inl x271), (6, .inl x272), (7, .inl x273), (8, .inl x274), (9, .inl x275), (10, .inl x342)] (List.forall_mem_cons.mpr ⟨(.tail _ (.head _)), List.forall_mem_cons.mpr ⟨(.tail _ (.tail _ (.head _))), List.forall_mem_cons.mpr ⟨(.tail _ (.tail _ (.tail _ (.head _)))), List.forall_mem_cons.mpr ⟨(.tail _ (.tail _ (.tail _ (.tail _ (.head _))))), List.forall_mem_cons.mpr ⟨(.tail _ (.tail _ (.tail _ (.tail _ (.tail _ (.head _)))))), List.forall_mem_cons.mpr ⟨(.tail _ (.tail _ (.tail _ (.tail _ (.tail _ (.tail _ (.head _))))))), List.forall_mem_cons.mpr ⟨(.tail _ (.tail _ (.tail _ (.tail _ (.tail _ (.tail _ (.tail _ (.head _)))))))), List.forall_mem_cons.mpr ⟨(.tail _ (.tail _ (.tail _ (.tail _ (.tail _ (.tail _ (.tail _ (.tail _ (.head _))))))))), List.forall_mem_cons.mpr ⟨(.tail _ (.tail _ (.tail _ (.tail _ (.tail _ (.tail _ (.tail _ (.tail _ (.tail _ (.head _)))))))))), List.forall_mem_cons.mpr ⟨(.tail _ (.tail _ (.tail _ (.tail _ (.tail _ (.tail _ (.tail _ (.tail _ (.tail _ (.tail _ (.head _))))))))))), List.forall_mem_cons.mpr ⟨(.head _), fun _ z => absurd z List.not_mem_nil⟩⟩⟩⟩⟩⟩⟩⟩⟩⟩⟩) ?_
        exact ih85 h334 wh334 hfh334 x268 (by omega) (by omega) x269 (by omega) (by omega) x270 (by omega) (by omega) x271 (by omega) (by omega) x272 (by omega) (by omega) x273 x274 x275 (by omega) (by omega) x342 (by omega) (by omega) (by omega) Vh334 (by omega) Jh334 (by omega)
  refine tw_bipush (pc := 0) dX7_come_0 (by decide) (fun x343 ex343 => ?_)
  refine tt_iload_n (pc := 2) dX7_come_2 (.tail _ (.head _)) ?_
  refine tw_imul (c := 16) (pc := 3) dX7_come_3 (by omega) (by omega) (fun x344 ex344 => ?_)
  refine tt_istore_n (pc := 4) dX7_come_4 (by decide) ?_
  show TT _ _ _ _ _ _ _ [(2, .inl x344), (0, .inr (some a0)), (1, .inl a1)] _ _
  refine tt_iload_n (pc := 5) dX7_come_5 (.tail _ (.tail _ (.head _))) ?_
  refine tw_iconst (pc := 6) dX7_come_6 (by decide) (fun x345 ex345 => ?_)
  refine tw_idiv (c := 2) (pc := 7) dX7_come_7 (by omega) (by omega) (by decide) (fun x346 ex346 => ?_)
  refine tt_istore_n (pc := 8) dX7_come_8 (by decide) ?_
  show TT _ _ _ _ _ _ _ [(3, .inl x346), (2, .inl x344), (0, .inr (some a0)), (1, .inl a1)] _ _
  refine tt_iload_n (pc := 9) dX7_come_9 (.tail _ (.tail _ (.tail _ (.head _)))) ?_
  refine tw_iconst (pc := 10) dX7_come_10 (by decide) (fun x347 ex347 => ?_)
  refine tw_irem (c := 2) (pc := 11) dX7_come_11 (by omega) (by omega) (by decide) (fun x348 ex348 => ?_)
  refine tw_if (tgt := 24) (pc := 12) dX7_come_12 (by decide) (fun (c349 : x348.toInt ≠ 0) => ?_) (fun (c349 : ¬ (x348.toInt ≠ 0)) => ?_)
  · skip
    refine tt_aload_n (pc := 24) dX7_come_24 (.tail _ (.tail _ (.head _))) ?_
    refine tw_getr (pc := 25) dX7_come_25 flX7_16 hw ta0 (by decide) rfl (fun f350 q351 ef350 gf350 tq351 => ?_)
    refine tt_iload_n (pc := 28) dX7_come_28 (.head _) ?_
    refine tw_ild (pc := 29) dX7_come_29 hw tq351 rfl (by omega) (by omega) (fun f353 x352 ef353 gf353 lx352 ux352 => ?_)
    refine tt_istore (pc := 30) dX7_come_30 (by decide) ?_
    show TT _ _ _ _ _ _ _ [(4, .inl x352), (3, .inl x346), (2, .inl x344), (0, .inr (some a0)), (1, .inl a1)] _ _
    refine tt_aload_n (pc := 32) dX7_come_32 (.tail _ (.tail _ (.tail _ (.head _)))) ?_
    refine tw_getr (pc := 33) dX7_come_33 flX7_41 hw ta0 (by decide) rfl (fun f354 q355 ef354 gf354 tq355 => ?_)
    refine tt_iload_n (pc := 36) dX7_come_36 (.tail _ (.tail _ (.head _))) ?_
    refine tw_ild (pc := 37) dX7_come_37 hw tq355 rfl (by omega) (by omega) (fun f357 x356 ef357 gf357 lx356 ux356 => ?_)
    refine tt_istore (pc := 38) dX7_come_38 (by decide) ?_
    show TT _ _ _ _ _ _ _ [(5, .inl x356), (4, .inl x352), (3, .inl x346), (2, .inl x344), (0, .inr (some a0)), (1, .inl a1)] _ _
    refine tt_aload_n (pc := 40) dX7_come_40 (.tail _ (.tail _ (.tail _ (.tail _ (.head _))))) ?_
    refine tw_getr (pc := 41) dX7_come_41 flX7_44 hw ta0 (by decide) rfl (fun f358 q359 ef358 gf358 tq359 => ?_)
    refine tt_iload_n (pc := 44) dX7_come_44 (.tail _ (.tail _ (.tail _ (.head _)))) ?_
    refine tw_ild (pc := 45) dX7_come_45 hw tq359 rfl (by omega) (by omega) (fun f361 x360 ef361 gf361 lx360 ux360 => ?_)
    refine tt_istore (pc := 46) dX7_come_46 (by decide) ?_
    show TT _ _ _ _ _ _ _ [(6, .inl x360), (5, .inl x356), (4, .inl x352), (3, .inl x346), (2, .inl x344), (0, .inr (some a0)), (1, .inl a1)] _ _
    refine tt_aload_n (pc := 48) dX7_come_48 (.tail _ (.tail _ (.tail _ (.tail _ (.tail _ (.head _)))))) ?_
    refine tw_getr (pc := 49) dX7_come_49 flX7_47 hw ta0 (by decide) rfl (fun f362 q363 ef362 gf362 tq363 => ?_)
    refine tt_iload_n (pc := 52) dX7_come_52 (.tail _ (.tail _ (.tail _ (.tail _ (.head _))))) ?_
    refine tw_ild (pc := 53) dX7_come_53 hw tq363 rfl (by omega) (by omega) (fun f365 x364 ef365 gf365 lx364 ux364 => ?_)
    refine tt_istore (pc := 54) dX7_come_54 (by decide) ?_
    show TT _ _ _ _ _ _ _ [(7, .inl x364), (6, .inl x360), (5, .inl x356), (4, .inl x352), (3, .inl x346), (2, .inl x344), (0, .inr (some a0)), (1, .inl a1)] _ _
    refine tt_aload_n (pc := 56) dX7_come_56 (.tail _ (.tail _ (.tail _ (.tail _ (.tail _ (.tail _ (.head _))))))) ?_
    refine tw_getr (pc := 57) dX7_come_57 flX7_50 hw ta0 (by decide) rfl (fun f366 q367 ef366 gf366 tq367 => ?_)
    refine tt_iload_n (pc := 60) dX7_come_60 (.tail _ (.tail _ (.tail _ (.tail _ (.tail _ (.head _)))))) ?_
    refine tw_ild (pc := 61) dX7_come_61 hw tq367 rfl (by omega) (by omega) (fun f369 x368 ef369 gf369 lx368 ux368 => ?_)
    refine tt_istore (pc := 62) dX7_come_62 (by decide) ?_
    show TT _ _ _ _ _ _ _ [(8, .inl x368), (7, .inl x364), (6, .inl x360), (5, .inl x356), (4, .inl x352), (3, .inl x346), (2, .inl x344), (0, .inr (some a0)), (1, .inl a1)] _ _
    have rel := hw.2.2.1 _ _ _ _ _ _ tq355 tq359 tq363 ef357 ef361 ef365 _ _ _ _ gf357 gf361 gf365
    refine tt_aload_n (pc := 64) dX7_come_64 (.tail _ (.tail _ (.tail _ (.tail _ (.tail _ (.tail _ (.tail _ (.head _)))))))) ?_
    refine tw_getr (pc := 65) dX7_come_65 flX7_53 hw ta0 (by decide) rfl (fun f370 q371 ef370 gf370 tq371 => ?_)
    refine tt_iload_n (pc := 68) dX7_come_68 (.tail _ (.tail _ (.tail _ (.tail _ (.tail _ (.tail _ (.head _))))))) ?_
    refine tw_zld (pc := 69) dX7_come_69 hw tq371 rfl (by omega) (by omega) (fun f373 x372 ef373 gf373 lx372 ux372 => ?_)
    refine tt_istore (pc := 70) dX7_come_70 (by decide) ?_
    show TT _ _ _ _ _ _ _ [(9, .inl x372), (8, .inl x368), (7, .inl x364), (6, .inl x360), (5, .inl x356), (4, .inl x352), (3, .inl x346), (2, .inl x344), (0, .inr (some a0)), (1, .inl a1)] _ _
    refine tt_aload_n (pc := 72) dX7_come_72 (.tail _ (.tail _ (.tail _ (.tail _ (.tail _ (.tail _ (.tail _ (.tail _ (.head _))))))))) ?_
    refine tw_getr (pc := 73) dX7_come_73 flX7_38 hw ta0 (by decide) rfl (fun f374 q375 ef374 gf374 tq375 => ?_)
    refine tt_iload_n (pc := 76) dX7_come_76 (.tail _ (.tail _ (.tail _ (.tail _ (.tail _ (.tail _ (.tail _ (.tail _ (.tail _ (.head _)))))))))) ?_
    refine tt_dup2 (pc := 77) dX7_come_77 ?_
    refine tw_ild (pc := 78) dX7_come_78 hw tq375 rfl (by omega) (by omega) (fun f377 x376 ef377 gf377 lx376 ux376 => ?_)
    have w1 := hq _ _ _ tq375 ef377 gf377
    refine tw_iconst (pc := 79) dX7_come_79 (by decide) (fun x378 ex378 => ?_)
    refine tw_isub (pc := 80) dX7_come_80 (by omega) (fun x379 ex379 => ?_)
    refine tw_ist (P := (PEX 41)) (pc := 81) dX7_come_81 hw tq375 rfl (by omega) (by omega) (by omega) (by omega) (by decide) (fun f380 h381 eh381 gh381 kh381 wh381 fh381 => ?_)
    have hfh381 := hf.tr (fh381.weak (weak_PEX (fun _ => rfl)))
    have Jh381 := i1_fr fh381 (by decide) (by decide) (by decide) (by decide) hI
    obtain ⟨f382, E383, G384⟩ := fr_fld fh381 ta0 (by decide) ef350 gf350
    have E385 := fr_arrI fh381 tq351 (by decide) ef353
    obtain ⟨f386, E387, G388⟩ := fr_fld fh381 ta0 (by decide) ef354 gf354
    have E389 := fr_arrI fh381 tq355 (by decide) ef357
    obtain ⟨f390, E391, G392⟩ := fr_fld fh381 ta0 (by decide) ef358 gf358
    have E393 := fr_arrI fh381 tq359 (by decide) ef361
    obtain ⟨f394, E395, G396⟩ := fr_fld fh381 ta0 (by decide) ef362 gf362
    have E397 := fr_arrI fh381 tq363 (by decide) ef365
    obtain ⟨f398, E399, G400⟩ := fr_fld fh381 ta0 (by decide) ef366 gf366
    have E401 := fr_arrI fh381 tq367 (by decide) ef369
    obtain ⟨f402, E403, G404⟩ := fr_fld fh381 ta0 (by decide) ef370 gf370
    have E405 := fr_arrI fh381 tq371 (by decide) ef373
    obtain ⟨f406, E407, G408⟩ := fr_fld fh381 ta0 (by decide) ef374 gf374
    have W9 := w15_set hw.2.2.2 tq375 gh381 kh381 (by omega)
    refine tt_iload_n (pc := 82) dX7_come_82 (.tail _ (.tail _ (.tail _ (.tail _ (.tail _ (.tail _ (.tail _ (.head _)))))))) ?_
    refine tt_istore (pc := 83) dX7_come_83 (by decide) ?_
    show TT _ _ _ _ _ _ _ [(10, .inl x344), (9, .inl x372), (8, .inl x368), (7, .inl x364), (6, .inl x360), (5, .inl x356), (4, .inl x352), (3, .inl x346), (2, .inl x344), (0, .inr (some a0)), (1, .inl a1)] _ _
    refine tt_loc [(0, .inr (some a0)), (1, .inl a1), (2, .inl x344), (3, .inl x346), (4, .inl x352), (5, .inl x356), (6, .inl x360), (7, .inl x364), (8, .inl x368), (9, .inl x372), (10, .inl x344)] (List.forall_mem_cons.mpr ⟨(.tail _ (.tail _ (.tail _ (.tail _ (.tail _ (.tail _ (.tail _ (.tail _ (.tail _ (.head _)))))))))), List.forall_mem_cons.mpr ⟨(.tail _ (.tail _ (.tail _ (.tail _ (.tail _ (.tail _ (.tail _ (.tail _ (.tail _ (.tail _ (.head _))))))))))), List.forall_mem_cons.mpr ⟨(.tail _ (.tail _ (.tail _ (.tail _ (.tail _ (.tail _ (.tail _ (.tail _ (.head _))))))))), List.forall_mem_cons.mpr ⟨(.tail _ (.tail _ (.tail _ (.tail _ (.tail _ (.tail _ (.tail _ (.head _)))))))), List.forall_mem_cons.mpr ⟨(.tail _ (.tail _ (.tail _ (.tail _ (.tail _ (.tail _ (.head _))))))), List.forall_mem_cons.mpr ⟨(.tail _ (.tail _ (.tail _ (.tail _ (.tail _ (.head _)))))), List.forall_mem_cons.mpr ⟨(.tail _ (.tail _ (.tail _ (.tail _ (.head _))))), List.forall_mem_cons.mpr ⟨(.tail _ (.tail _ (.tail _ (.head _)))), List.forall_mem_cons.mpr ⟨(.tail _ (.tail _ (.head _))), List.forall_mem_cons.mpr ⟨(.tail _ (.head _)), List.forall_mem_cons.mpr ⟨(.head _), fun _ z => absurd z List.not_mem_nil⟩⟩⟩⟩⟩⟩⟩⟩⟩⟩⟩) ?_
    exact B85 384 h381 wh381 hfh381 x344 (by omega) (by omega) x346 (by omega) (by omega) x352 (by omega) (by omega) x356 (by omega) (by omega) x360 (by omega) (by omega) x364 x368 x372 (by omega) (by omega) x344 (by omega) (by omega) (by omega) W9 (by omega) Jh381 (by omega)
  · skip
    refine tt_aload_n (pc := 15) dX7_come_15 (.tail _ (.tail _ (.head _))) ?_
    refine tw_getr (pc := 16) dX7_come_16 flX7_20 hw ta0 (by decide) rfl (fun f409 q410 ef409 gf409 tq410 => ?_)
    refine tt_iload_n (pc := 19) dX7_come_19 (.head _) ?_
    refine tw_ild (pc := 20) dX7_come_20 hw tq410 rfl (by omega) (by omega) (fun f412 x411 ef412 gf412 lx411 ux411 => ?_)
    refine tt_goto (tgt := 30) (pc := 21) dX7_come_21 (by decide) ?_
    refine tt_istore (pc := 30) dX7_come_30 (by decide) ?_
    show TT _ _ _ _ _ _ _ [(4, .inl x411), (3, .inl x346), (2, .inl x344), (0, .inr (some a0)), (1, .inl a1)] _ _
    refine tt_aload_n (pc := 32) dX7_come_32 (.tail _ (.tail _ (.tail _ (.head _)))) ?_
    refine tw_getr (pc := 33) dX7_come_33 flX7_41 hw ta0 (by decide) rfl (fun f413 q414 ef413 gf413 tq414 => ?_)
    refine tt_iload_n (pc := 36) dX7_come_36 (.tail _ (.tail _ (.head _))) ?_
    refine tw_ild (pc := 37) dX7_come_37 hw tq414 rfl (by omega) (by omega) (fun f416 x415 ef416 gf416 lx415 ux415 => ?_)
    refine tt_istore (pc := 38) dX7_come_38 (by decide) ?_
    show TT _ _ _ _ _ _ _ [(5, .inl x415), (4, .inl x411), (3, .inl x346), (2, .inl x344), (0, .inr (some a0)), (1, .inl a1)] _ _
    refine tt_aload_n (pc := 40) dX7_come_40 (.tail _ (.tail _ (.tail _ (.tail _ (.head _))))) ?_
    refine tw_getr (pc := 41) dX7_come_41 flX7_44 hw ta0 (by decide) rfl (fun f417 q418 ef417 gf417 tq418 => ?_)
    refine tt_iload_n (pc := 44) dX7_come_44 (.tail _ (.tail _ (.tail _ (.head _)))) ?_
    refine tw_ild (pc := 45) dX7_come_45 hw tq418 rfl (by omega) (by omega) (fun f420 x419 ef420 gf420 lx419 ux419 => ?_)
    refine tt_istore (pc := 46) dX7_come_46 (by decide) ?_
    show TT _ _ _ _ _ _ _ [(6, .inl x419), (5, .inl x415), (4, .inl x411), (3, .inl x346), (2, .inl x344), (0, .inr (some a0)), (1, .inl a1)] _ _
    refine tt_aload_n (pc := 48) dX7_come_48 (.tail _ (.tail _ (.tail _ (.tail _ (.tail _ (.head _)))))) ?_
    refine tw_getr (pc := 49) dX7_come_49 flX7_47 hw ta0 (by decide) rfl (fun f421 q422 ef421 gf421 tq422 => ?_)
    refine tt_iload_n (pc := 52) dX7_come_52 (.tail _ (.tail _ (.tail _ (.tail _ (.head _))))) ?_
    refine tw_ild (pc := 53) dX7_come_53 hw tq422 rfl (by omega) (by omega) (fun f424 x423 ef424 gf424 lx423 ux423 => ?_)
    refine tt_istore (pc := 54) dX7_come_54 (by decide) ?_
    show TT _ _ _ _ _ _ _ [(7, .inl x423), (6, .inl x419), (5, .inl x415), (4, .inl x411), (3, .inl x346), (2, .inl x344), (0, .inr (some a0)), (1, .inl a1)] _ _
    refine tt_aload_n (pc := 56) dX7_come_56 (.tail _ (.tail _ (.tail _ (.tail _ (.tail _ (.tail _ (.head _))))))) ?_
    refine tw_getr (pc := 57) dX7_come_57 flX7_50 hw ta0 (by decide) rfl (fun f425 q426 ef425 gf425 tq426 => ?_)
    refine tt_iload_n (pc := 60) dX7_come_60 (.tail _ (.tail _ (.tail _ (.tail _ (.tail _ (.head _)))))) ?_
    refine tw_ild (pc := 61) dX7_come_61 hw tq426 rfl (by omega) (by omega) (fun f428 x427 ef428 gf428 lx427 ux427 => ?_)
    refine tt_istore (pc := 62) dX7_come_62 (by decide) ?_
    show TT _ _ _ _ _ _ _ [(8, .inl x427), (7, .inl x423), (6, .inl x419), (5, .inl x415), (4, .inl x411), (3, .inl x346), (2, .inl x344), (0, .inr (some a0)), (1, .inl a1)] _ _
    have rel := hw.2.2.1 _ _ _ _ _ _ tq414 tq418 tq422 ef416 ef420 ef424 _ _ _ _ gf416 gf420 gf424
    refine tt_aload_n (pc := 64) dX7_come_64 (.tail _ (.tail _ (.tail _ (.tail _ (.tail _ (.tail _ (.tail _ (.head _)))))))) ?_
    refine tw_getr (pc := 65) dX7_come_65 flX7_53 hw ta0 (by decide) rfl (fun f429 q430 ef429 gf429 tq430 => ?_)
    refine tt_iload_n (pc := 68) dX7_come_68 (.tail _ (.tail _ (.tail _ (.tail _ (.tail _ (.tail _ (.head _))))))) ?_
    refine tw_zld (pc := 69) dX7_come_69 hw tq430 rfl (by omega) (by omega) (fun f432 x431 ef432 gf432 lx431 ux431 => ?_)
    refine tt_istore (pc := 70) dX7_come_70 (by decide) ?_
    show TT _ _ _ _ _ _ _ [(9, .inl x431), (8, .inl x427), (7, .inl x423), (6, .inl x419), (5, .inl x415), (4, .inl x411), (3, .inl x346), (2, .inl x344), (0, .inr (some a0)), (1, .inl a1)] _ _
    refine tt_aload_n (pc := 72) dX7_come_72 (.tail _ (.tail _ (.tail _ (.tail _ (.tail _ (.tail _ (.tail _ (.tail _ (.head _))))))))) ?_
    refine tw_getr (pc := 73) dX7_come_73 flX7_38 hw ta0 (by decide) rfl (fun f433 q434 ef433 gf433 tq434 => ?_)
    refine tt_iload_n (pc := 76) dX7_come_76 (.tail _ (.tail _ (.tail _ (.tail _ (.tail _ (.tail _ (.tail _ (.tail _ (.tail _ (.head _)))))))))) ?_
    refine tt_dup2 (pc := 77) dX7_come_77 ?_
    refine tw_ild (pc := 78) dX7_come_78 hw tq434 rfl (by omega) (by omega) (fun f436 x435 ef436 gf436 lx435 ux435 => ?_)
    have w1 := hq _ _ _ tq434 ef436 gf436
    refine tw_iconst (pc := 79) dX7_come_79 (by decide) (fun x437 ex437 => ?_)
    refine tw_isub (pc := 80) dX7_come_80 (by omega) (fun x438 ex438 => ?_)
    refine tw_ist (P := (PEX 41)) (pc := 81) dX7_come_81 hw tq434 rfl (by omega) (by omega) (by omega) (by omega) (by decide) (fun f439 h440 eh440 gh440 kh440 wh440 fh440 => ?_)
    have hfh440 := hf.tr (fh440.weak (weak_PEX (fun _ => rfl)))
    have Jh440 := i1_fr fh440 (by decide) (by decide) (by decide) (by decide) hI
    obtain ⟨f441, E442, G443⟩ := fr_fld fh440 ta0 (by decide) ef409 gf409
    have E444 := fr_arrI fh440 tq410 (by decide) ef412
    obtain ⟨f445, E446, G447⟩ := fr_fld fh440 ta0 (by decide) ef413 gf413
    have E448 := fr_arrI fh440 tq414 (by decide) ef416
    obtain ⟨f449, E450, G451⟩ := fr_fld fh440 ta0 (by decide) ef417 gf417
    have E452 := fr_arrI fh440 tq418 (by decide) ef420
    obtain ⟨f453, E454, G455⟩ := fr_fld fh440 ta0 (by decide) ef421 gf421
    have E456 := fr_arrI fh440 tq422 (by decide) ef424
    obtain ⟨f457, E458, G459⟩ := fr_fld fh440 ta0 (by decide) ef425 gf425
    have E460 := fr_arrI fh440 tq426 (by decide) ef428
    obtain ⟨f461, E462, G463⟩ := fr_fld fh440 ta0 (by decide) ef429 gf429
    have E464 := fr_arrI fh440 tq430 (by decide) ef432
    obtain ⟨f465, E466, G467⟩ := fr_fld fh440 ta0 (by decide) ef433 gf433
    have W9 := w15_set hw.2.2.2 tq434 gh440 kh440 (by omega)
    refine tt_iload_n (pc := 82) dX7_come_82 (.tail _ (.tail _ (.tail _ (.tail _ (.tail _ (.tail _ (.tail _ (.head _)))))))) ?_
    refine tt_istore (pc := 83) dX7_come_83 (by decide) ?_
    show TT _ _ _ _ _ _ _ [(10, .inl x344), (9, .inl x431), (8, .inl x427), (7, .inl x423), (6, .inl x419), (5, .inl x415), (4, .inl x411), (3, .inl x346), (2, .inl x344), (0, .inr (some a0)), (1, .inl a1)] _ _
    refine tt_loc [(0, .inr (some a0)), (1, .inl a1), (2, .inl x344), (3, .inl x346), (4, .inl x411), (5, .inl x415), (6, .inl x419), (7, .inl x423), (8, .inl x427), (9, .inl x431), (10, .inl x344)] (List.forall_mem_cons.mpr ⟨(.tail _ (.tail _ (.tail _ (.tail _ (.tail _ (.tail _ (.tail _ (.tail _ (.tail _ (.head _)))))))))), List.forall_mem_cons.mpr ⟨(.tail _ (.tail _ (.tail _ (.tail _ (.tail _ (.tail _ (.tail _ (.tail _ (.tail _ (.tail _ (.head _))))))))))), List.forall_mem_cons.mpr ⟨(.tail _ (.tail _ (.tail _ (.tail _ (.tail _ (.tail _ (.tail _ (.tail _ (.head _))))))))), List.forall_mem_cons.mpr ⟨(.tail _ (.tail _ (.tail _ (.tail _ (.tail _ (.tail _ (.tail _ (.head _)))))))), List.forall_mem_cons.mpr ⟨(.tail _ (.tail _ (.tail _ (.tail _ (.tail _ (.tail _ (.head _))))))), List.forall_mem_cons.mpr ⟨(.tail _ (.tail _ (.tail _ (.tail _ (.tail _ (.head _)))))), List.forall_mem_cons.mpr ⟨(.tail _ (.tail _ (.tail _ (.tail _ (.head _))))), List.forall_mem_cons.mpr ⟨(.tail _ (.tail _ (.tail _ (.head _)))), List.forall_mem_cons.mpr ⟨(.tail _ (.tail _ (.head _))), List.forall_mem_cons.mpr ⟨(.tail _ (.head _)), List.forall_mem_cons.mpr ⟨(.head _), fun _ z => absurd z List.not_mem_nil⟩⟩⟩⟩⟩⟩⟩⟩⟩⟩⟩) ?_
    exact B85 384 h440 wh440 hfh440 x344 (by omega) (by omega) x346 (by omega) (by omega) x411 (by omega) (by omega) x415 (by omega) (by omega) x419 (by omega) (by omega) x423 x427 x431 (by omega) (by omega) x344 (by omega) (by omega) (by omega) W9 (by omega) Jh440 (by omega)
