abbrev mX4_init : tM := (RX4, cX4_init, 4, 2, 44, true)
set_option maxHeartbeats 4000000 in
theorem g_X4_initB {l : Launch} {D : va_G} {N : Nat} {pk : Int} {τ : List Nat} (hN2 : 2 ≤ N) (hN8 : N ≤ 8) (hp0 : 0 ≤ pk) (hp64 : pk ≤ 64) {h : List tC} (hw : WT N pk τ h) (a0 : Nat) (ta0 : τ[a0]? = some 4) (a1 : Int32) (la1 : 0 ≤ a1.toInt) (ua1 : a1.toInt ≤ 7) : TT l D mX4_init (tRt cX4_init none (fun rv h' => WT N pk τ h' ∧ Fr PX τ h h' ∧ rv = none)) 0 0 103 [(0, .inr (some a0)), (1, .inl a1)] [] h := by
  suffices HQ : ∀ Q0, Q0 = (tRt cX4_init none (fun rv h' => WT N pk τ h' ∧ Fr PX τ h h' ∧ rv = none)) → TT l D mX4_init Q0 0 0 103 [(0, .inr (some a0)), (1, .inl a1)] [] h from HQ _ rfl
  intro Q0 hQ
  have hf : Fr PX τ h h := Fr.rf
  have B157 : ∀ (n157 : Nat) (hb : List tC) (hwb : WT N pk τ hb) (hfb : Fr PX τ h hb) (x354 : Int32) (lx354 : 0 ≤ x354.toInt) (ux354 : x354.toInt ≤ 80), 80 - x354.toInt < n157 → TT l D mX4_init Q0 0 0 157 [(0, .inr (some a0)), (2, .inl x354)] [] hb := by
    intro n157
    induction n157 with
    | zero =>
      intro hb hwb hfb x354 lx354 ux354 hn157
      exfalso
      omega
    | succ n157 ih157 =>
      intro hb hwb hfb x354 lx354 ux354 hn157
      refine tt_iload_n (pc := 157) dX4_init_157 (.tail _ (.head _)) ?_
      refine tw_bipush (pc := 158) dX4_init_158 (by decide) (fun x355 ex355 => ?_)
      refine tw_icmp (tgt := 176) (pc := 160) dX4_init_160 (by decide) (fun (c356 : x355.toInt ≤ x354.toInt) => ?_) (fun (c356 : ¬ (x355.toInt ≤ x354.toInt)) => ?_)
      · skip
        refine tt_stop ?_
        rw [hQ]
        exact Or.inl ⟨dX4_init_176, rfl, rfl, hwb, hfb, rfl⟩
      · skip
        refine tt_aload_n (pc := 163) dX4_init_163 (.head _) ?_
        refine tw_getr (pc := 164) dX4_init_164 flX4_35 hwb ta0 (by decide) rfl (fun f357 q358 ef357 gf357 tq358 => ?_)
        refine tt_iload_n (pc := 167) dX4_init_167 (.tail _ (.head _)) ?_
        refine tw_iconst (pc := 168) dX4_init_168 (by decide) (fun x359 ex359 => ?_)
        refine tw_ist (P := PX) (pc := 169) dX4_init_169 hwb tq358 rfl (by omega) (by omega) (by omega) (by omega) (by decide) (fun f360 h361 eh361 gh361 kh361 wh361 fh361 => ?_)
        have hfh361 := hfb.tr fh361
        refine tw_iinc (pc := 170) dX4_init_170 (.tail _ (.head _)) (by decide) (by decide) (by omega) (fun x362 ex362 => ?_)
        show TT _ _ _ _ _ _ _ [(2, .inl x362), (0, .inr (some a0))] _ _
        refine tt_goto (tgt := 157) (pc := 173) dX4_init_173 (by decide) ?_
        refine tt_loc [(0, .inr (some a0)), (2, .inl x362)] (List.forall_mem_cons.mpr ⟨(.tail _ (.head _)), List.forall_mem_cons.mpr ⟨(.head _), fun _ z => absurd z List.not_mem_nil⟩⟩) ?_
        exact ih157 h361 wh361 hfh361 x362 (by omega) (by omega) (by omega)
  have B109 : ∀ (n109 : Nat) (hb : List tC) (hwb : WT N pk τ hb) (hfb : Fr PX τ h hb) (x363 : Int32) (lx363 : 0 ≤ x363.toInt) (ux363 : x363.toInt ≤ 8), 8 - x363.toInt < n109 → TT l D mX4_init Q0 0 0 109 [(0, .inr (some a0)), (2, .inl x363)] [] hb := by
    intro n109
    induction n109 with
    | zero =>
      intro hb hwb hfb x363 lx363 ux363 hn109
      exfalso
      omega
    | succ n109 ih109 =>
      intro hb hwb hfb x363 lx363 ux363 hn109
      have B131 : ∀ (n131 : Nat) (hb : List tC) (hwb : WT N pk τ hb) (hfb : Fr PX τ h hb) (x364 : Int32) (lx364 : 0 ≤ x364.toInt) (ux364 : x364.toInt ≤ 7) (x365 : Int32) (lx365 : 0 ≤ x365.toInt) (ux365 : x365.toInt ≤ 12) (hn109 : 8 - x364.toInt < ((n109 + 1 : Nat) : Int)), 12 - x365.toInt < n131 → TT l D mX4_init Q0 0 0 131 [(0, .inr (some a0)), (2, .inl x364), (3, .inl x365)] [] hb := by
        intro n131
        induction n131 with
        | zero =>
          intro hb hwb hfb x364 lx364 ux364 x365 lx365 ux365 hn109 hn131
          exfalso
          omega
        | succ n131 ih131 =>
          intro hb hwb hfb x364 lx364 ux364 x365 lx365 ux365 hn109 hn131
          refine tt_iload_n (pc := 131) dX4_init_131 (.tail _ (.tail _ (.head _))) ?_
          refine tw_bipush (pc := 132) dX4_init_132 (by decide) (fun x366 ex366 => ?_)
          refine tw_icmp (tgt := 149) (pc := 134) dX4_init_134 (by decide) (fun (c367 : x366.toInt ≤ x365.toInt) => ?_) (fun (c367 : ¬ (x366.toInt ≤ x365.toInt)) => ?_)
          · skip
            refine tw_iinc (pc := 149) dX4_init_149 (.tail _ (.head _)) (by decide) (by decide) (by omega) (fun x368 ex368 => ?_)
            show TT _ _ _ _ _ _ _ [(2, .inl x368), (0, .inr (some a0)), (3, .inl x365)] _ _
            refine tt_goto (tgt := 109) (pc := 152) dX4_init_152 (by decide) ?_
            refine tt_loc [(0, .inr (some a0)), (2, .inl x368)] (List.forall_mem_cons.mpr ⟨(.tail _ (.head _)), List.forall_mem_cons.mpr ⟨(.head _), fun _ z => absurd z List.not_mem_nil⟩⟩) ?_
            exact ih109 hb hwb hfb x368 (by omega) (by omega) (by omega)
          · skip
            refine tt_aload_n (pc := 137) dX4_init_137 (.head _) ?_
            refine tt_iload_n (pc := 138) dX4_init_138 (.tail _ (.head _)) ?_
            refine tt_iload_n (pc := 139) dX4_init_139 (.tail _ (.tail _ (.head _))) ?_
            refine tw_callV (kc := 0) (ks := 0) (mc := 0) (ms := 0) (as := [.inl x364, .inl x365]) (st := []) (pc := 140) hwb ta0 (by decide) dX4_init_140 lkX4_51 imX4_forgetMapping seX4_forgetMapping rfl rfl (by decide) (by decide) (Nat.le_of_ble_eq_true rfl) (g_X4_forgetMapping hN2 hN8 hp0 hp64 hwb a0 ta0 x364 (by omega) (by omega) x365 (by omega) (by omega)) (fun rv h369 qh369 => ?_)
            obtain ⟨wh369, fh369, rfl⟩ := qh369
            have hfh369 := hfb.tr fh369
            show TT _ _ _ _ _ _ _ _ [] _
            refine tw_iinc (pc := 143) dX4_init_143 (.tail _ (.tail _ (.head _))) (by decide) (by decide) (by omega) (fun x370 ex370 => ?_)
            show TT _ _ _ _ _ _ _ [(3, .inl x370), (0, .inr (some a0)), (2, .inl x364)] _ _
            refine tt_goto (tgt := 131) (pc := 146) dX4_init_146 (by decide) ?_
            refine tt_loc [(0, .inr (some a0)), (2, .inl x364), (3, .inl x370)] (List.forall_mem_cons.mpr ⟨(.tail _ (.head _)), List.forall_mem_cons.mpr ⟨(.tail _ (.tail _ (.head _))), List.forall_mem_cons.mpr ⟨(.head _), fun _ z => absurd z List.not_mem_nil⟩⟩⟩) ?_
            exact ih131 h369 wh369 hfh369 x364 (by omega) (by omega) x370 (by omega) (by omega) (by omega) (by omega)
      refine tt_iload_n (pc := 109) dX4_init_109 (.tail _ (.head _)) ?_
      refine tw_bipush (pc := 110) dX4_init_110 (by decide) (fun x371 ex371 => ?_)
      refine tw_icmp (tgt := 155) (pc := 112) dX4_init_112 (by decide) (fun (c372 : x371.toInt ≤ x363.toInt) => ?_) (fun (c372 : ¬ (x371.toInt ≤ x363.toInt)) => ?_)
      · skip
        refine tw_iconst (pc := 155) dX4_init_155 (by decide) (fun x373 ex373 => ?_)
        refine tt_istore_n (pc := 156) dX4_init_156 (by decide) ?_
        show TT _ _ _ _ _ _ _ [(2, .inl x373), (0, .inr (some a0))] _ _
        refine tt_loc [(0, .inr (some a0)), (2, .inl x373)] (List.forall_mem_cons.mpr ⟨(.tail _ (.head _)), List.forall_mem_cons.mpr ⟨(.head _), fun _ z => absurd z List.not_mem_nil⟩⟩) ?_
        exact B157 81 hb hwb hfb x373 (by omega) (by omega) (by omega)
      · skip
        refine tt_aload_n (pc := 115) dX4_init_115 (.head _) ?_
        refine tw_getr (pc := 116) dX4_init_116 flX4_28 hwb ta0 (by decide) rfl (fun f374 q375 ef374 gf374 tq375 => ?_)
        refine tt_iload_n (pc := 119) dX4_init_119 (.tail _ (.head _)) ?_
        refine tw_iconst (pc := 120) dX4_init_120 (by decide) (fun x376 ex376 => ?_)
        refine tw_ist (P := PX) (pc := 121) dX4_init_121 hwb tq375 rfl (by omega) (by omega) (by omega) (by omega) (by decide) (fun f377 h378 eh378 gh378 kh378 wh378 fh378 => ?_)
        have hfh378 := hfb.tr fh378
        refine tt_aload_n (pc := 122) dX4_init_122 (.head _) ?_
        refine tw_getr (pc := 123) dX4_init_123 flX4_32 wh378 ta0 (by decide) rfl (fun f379 q380 ef379 gf379 tq380 => ?_)
        refine tt_iload_n (pc := 126) dX4_init_126 (.tail _ (.head _)) ?_
        refine tw_iconst (pc := 127) dX4_init_127 (by decide) (fun x381 ex381 => ?_)
        refine tw_ist (P := PX) (pc := 128) dX4_init_128 wh378 tq380 rfl (by omega) (by omega) (by omega) (by omega) (by decide) (fun f382 h383 eh383 gh383 kh383 wh383 fh383 => ?_)
        have hfh383 := hfh378.tr fh383
        refine tw_iconst (pc := 129) dX4_init_129 (by decide) (fun x384 ex384 => ?_)
        refine tt_istore_n (pc := 130) dX4_init_130 (by decide) ?_
        show TT _ _ _ _ _ _ _ [(3, .inl x384), (0, .inr (some a0)), (2, .inl x363)] _ _
        refine tt_loc [(0, .inr (some a0)), (2, .inl x363), (3, .inl x384)] (List.forall_mem_cons.mpr ⟨(.tail _ (.head _)), List.forall_mem_cons.mpr ⟨(.tail _ (.tail _ (.head _))), List.forall_mem_cons.mpr ⟨(.head _), fun _ z => absurd z List.not_mem_nil⟩⟩⟩) ?_
        exact B131 13 h383 wh383 hfh383 x363 (by omega) (by omega) x384 (by omega) (by omega) (by omega) (by omega)
  refine tt_aload_n (pc := 103) dX4_init_103 (.head _) ?_
  refine tw_callV (kc := 0) (ks := 0) (mc := 0) (ms := 0) (as := []) (st := []) (pc := 104) hw ta0 (by decide) dX4_init_104 lkX4_48 imX4_forgetDistances seX4_forgetDistances rfl rfl (by decide) (by decide) (Nat.le_of_ble_eq_true rfl) (g_X4_forgetDistances hN2 hN8 hp0 hp64 hw a0 ta0) (fun rv h385 qh385 => ?_)
  obtain ⟨wh385, fh385, rfl⟩ := qh385
  have hfh385 := hf.tr fh385
  show TT _ _ _ _ _ _ _ _ [] _
  refine tw_iconst (pc := 107) dX4_init_107 (by decide) (fun x386 ex386 => ?_)
  refine tt_istore_n (pc := 108) dX4_init_108 (by decide) ?_
  show TT _ _ _ _ _ _ _ [(2, .inl x386), (0, .inr (some a0)), (1, .inl a1)] _ _
  refine tt_loc [(0, .inr (some a0)), (2, .inl x386)] (List.forall_mem_cons.mpr ⟨(.tail _ (.head _)), List.forall_mem_cons.mpr ⟨(.head _), fun _ z => absurd z List.not_mem_nil⟩⟩) ?_
  exact B109 9 h385 wh385 hfh385 x386 (by omega) (by omega) (by omega)
section TC4
variable {l : Launch} {D : va_G} {M : tM} {Q : Nat → tL → List tV → List tC → Prop} {kc ks pc : Nat} {loc : tL} {st : List tV} {h : List tC}
variable {N : Nat} {pk : Int} {τ : List Nat}
abbrev arA (n b : Nat) : tC := .inr (.inl (8, (List.range n).map (fun i => some (b + i))))
abbrev csR (n : Nat) : List tC := (((((((([] ++ [.inr (.inl (5, List.replicate 8 none))]) ++ (arA 8 (n + 1 + 1) :: List.replicate 8 (.inl (0, List.replicate 8 0)))) ++ (arA 8 (n + 10 + 1) :: List.replicate 8 (.inl (0, List.replicate 12 0)))) ++ (arA 8 (n + 19 + 1) :: List.replicate 8 (.inl (0, List.replicate 12 0)))) ++ [.inl (0, List.replicate 8 0)]) ++ [.inl (0, List.replicate 8 0)]) ++ [.inl (0, List.replicate 80 0)]) ++ [.inl (0, List.replicate 80 0)])
abbrev rhR : List Nat := (((((((([] ++ [14]) ++ (15 :: List.replicate 8 16)) ++ (17 :: List.replicate 8 18)) ++ (17 :: List.replicate 8 18)) ++ [19]) ++ [19]) ++ [21]) ++ [22])
abbrev fsR (x : Int32) (n : Nat) : List tV := [.inl x, .inr (some n), .inr (some (n + 1)), .inr (some (n + 10)), .inr (some (n + 19)), .inr (some (n + 28)), .inr (some (n + 29)), .inr (some (n + 30)), .inr (some (n + 31))]
theorem many_R : ∀ r ∈ rhR, manyR r := by decide
theorem conf_arA {r rr n b : Nat} (ha : ats N r = some (8, n, .inr (rr, false))) (hn : ∀ j, j < n → τ[b + j]? = some rr) (h11 : r ≠ 11) : conf N pk τ r (arA n b) := by
  refine ⟨by decide, ⟨n, _, ha, by simp, fun q hq => ?_⟩, fun z => absurd z h11⟩
  obtain ⟨j, hj, rfl⟩ := List.mem_map.mp hq
  exact hn j (List.mem_range.mp hj)
theorem wt_rtr (hw : WT N 0 τ h) (hN : 2 ≤ N) {a : Nat} (ht : τ[a]? = some 29) {x : Int32} (hx : 0 ≤ x.toInt ∧ x.toInt ≤ (N : Int) - 1) : WT N 0 (τ.set a 4 ++ rhR) (HH h a 4 (fsR x h.length) (csR h.length)) := by
  have lk : ∀ (τ0 : List Nat) (n j : Nat), τ0.length = n → (τ0 ++ rhR)[n + j]? = rhR[j]? := fun τ0 n j e => by
    subst e
    rw [List.getElem?_append_right (by omega)]
    congr 1
    omega
  have rep : ∀ (k0 m r : Nat), (∀ j, j < m → rhR[k0 + j]? = some r) → ∀ j, j < m → (τ ++ rhR)[τ.length + k0 + j]? = some r := fun k0 m r hr j hj => by
    rw [Nat.add_assoc, lk τ _ _ rfl]
    exact hr j hj
  rw [hw.1]
  refine ac_born hw ht (by decide) many_R ?_ ⟨rfl, by decide, rfl, fun j ft v hj hv => ?_, fun z => by cases z⟩
  · refine AC.app (AC.app (AC.app (AC.app (AC.app (AC.app (AC.app (AC.app AC.nil (AC.cons ?_ AC.nil)) (AC.cons ?_ (AC.rep ?_))) (AC.cons ?_ (AC.rep ?_))) (AC.cons ?_ (AC.rep ?_))) (AC.cons ?_ AC.nil)) (AC.cons ?_ AC.nil)) (AC.cons ?_ AC.nil)) (AC.cons ?_ AC.nil)
    · exact ⟨by decide, ⟨8, _, rfl, by simp, fun q hq => by rw [List.eq_of_mem_replicate hq]; rfl⟩, fun z => by cases z⟩
    · exact conf_arA rfl (rep 2 8 16 (by decide)) (by decide)
    · exact conf_z (by decide) rfl ⟨by decide, by decide⟩
    · exact conf_arA rfl (rep 11 8 18 (by decide)) (by decide)
    · exact conf_z (by decide) rfl ⟨by decide, by decide⟩
    · exact conf_arA rfl (rep 20 8 18 (by decide)) (by decide)
    · exact conf_z (by decide) rfl ⟨by decide, by decide⟩
    · exact conf_z (by decide) rfl ⟨by decide, by decide⟩
    · exact conf_z (by decide) rfl ⟨by decide, by decide⟩
    · exact conf_z (by decide) rfl ⟨by decide, by decide⟩
    · exact conf_z (by decide) rfl ⟨by decide, by decide⟩
  · have q : ∀ j, (τ.set a 4 ++ rhR)[τ.length + j]? = rhR[j]? := fun j => lk _ _ _ (List.length_set)
    match j, hj, hv with
    | 0, hj, hv => cases hj; cases hv; exact hx
    | 1, hj, hv => cases hj; cases hv; exact q 0
    | 2, hj, hv => cases hj; cases hv; exact q 1
    | 3, hj, hv => cases hj; cases hv; exact q 10
    | 4, hj, hv => cases hj; cases hv; exact q 19
    | 5, hj, hv => cases hj; cases hv; exact q 28
    | 6, hj, hv => cases hj; cases hv; exact q 29
    | 7, hj, hv => cases hj; cases hv; exact q 30
    | 8, hj, hv => cases hj; cases hv; exact q 31
    | n + 9, hj, _ => simp [fts] at hj
/-- what is not whole is kept, and laid is 0 -/
def L0 (τ : List Nat) (h : List tC) : Prop := ∀ (q : Nat) (fs : List tV), τ[q]? = some 0 → h[q]? = some (.inr (.inr (0, fs))) → fs[0]? = some (.inl 0) ∧ fs[1]? = some (.inl 0)
/-- what a constructor leaves -/
def MADE (N : Nat) (τ : List Nat) (h : List tC) (a ci : Nat) (h' : List tC) : Prop := ∃ τ' : List Nat, WT N 0 τ' h' ∧ (∀ k r, k ≠ a → τ[k]? = some r → τ'[k]? = some r) ∧ τ'[a]? = some ci ∧ (∀ k r, τ.length ≤ k → τ'[k]? = some r → manyR r ∧ r ≠ 29) ∧ (∀ k, k ≠ a → τ[k]? = some 29 → h'[k]? = h[k]?) ∧ (L0 τ h → L0 τ' h')
theorem fr_k29 {P : Nat → Nat → Bool} {τ' : List Nat} {h' : List tC} (f : Fr P τ' h h') (p : ∀ j, P 29 j = true) {k : Nat} (hk : τ'[k]? = some 29) (hlt : k < h.length) : h'[k]? = h[k]? := by
  obtain ⟨f1, f2⟩ := f k 29 hk
  have hc := List.getElem?_eq_getElem hlt
  match hh : h[k], hc with
  | .inr (.inr (ci, fs)), hc =>
    obtain ⟨fs', e1, e2⟩ := f1 ci fs (by rw [hc])
    rw [e1, hc]
    congr 4
    apply List.ext_getElem?
    intro j
    exact e2 j (p j)
  | .inl (t, xs), hc => exact (f2 (fun ci fs z => by rw [hc] at z; cases z)).2 (p 0)
  | .inr (.inl (t, xs)), hc => exact (f2 (fun ci fs z => by rw [hc] at z; cases z)).2 (p 0)
theorem fr_l0 {P : Nat → Nat → Bool} {h' : List tC} (f : Fr P τ h h') (p : P 0 0 = true) (p1 : P 0 1 = true) (hl : h.length = τ.length) (h0 : L0 τ h) : L0 τ h' := by
  intro q fs hq hf
  obtain ⟨f1, f2⟩ := f q 0 hq
  have hc := List.getElem?_eq_getElem (l := h) (i := q) (by rw [hl]; exact t_at hq)
  match hh : h[q]'(by rw [hl]; exact t_at hq), hc with
  | .inr (.inr (ci, fs0)), hc =>
    obtain ⟨fs', e1, e2⟩ := f1 ci fs0 (by rw [hc])
    rw [hf] at e1
    cases e1
    rw [e2 0 p, e2 1 p1]
    exact h0 q fs0 hq (by rw [hc])
  | .inl (t, xs), hc => exact absurd hf ((f2 (fun ci fs z => by rw [hc] at z; cases z)).1 0 fs)
  | .inr (.inl (t, xs)), hc => exact absurd hf ((f2 (fun ci fs z => by rw [hc] at z; cases z)).1 0 fs)
abbrev mkX4 : tM := mX4_init
set_option maxHeartbeats 8000000 in
theorem g_X4_init (hN2 : 2 ≤ N) (hN8 : N ≤ 8) (hw : WT N 0 τ h) (a : Nat) (ht : τ[a]? = some 29) (ha0 : h[a]? = some rtr0) (x : Int32) (hx : 0 ≤ x.toInt ∧ x.toInt ≤ (N : Int) - 1) : TMc l D yX4_init cX4_init 4 none 2 44 33 468 [.inr (some a), .inl x] h (fun rv h' => MADE N τ h a 4 h' ∧ rv = none) := by
  refine tmc_of true rfl (by decide) (Nat.le_of_ble_eq_true rfl) ?_
  suffices HQ : ∀ Q0, Q0 = tRt cX4_init none (fun rv h' => MADE N τ h a 4 h' ∧ rv = none) → TT l D mX4_init Q0 33 468 0 [(0, .inr (some a)), (1, .inl x)] [] (HH h a 4 [.inl 0, .inr none, .inr none, .inr none, .inr none, .inr none, .inr none, .inr none, .inr none] []) by
    rw [← HH_id ha0] at HQ
    exact HQ _ rfl
  intro Q0 hQ
  have ha : a < h.length := t_at ha0

  refine tt_aload_n (pc := 0) dX4_init_0 (.head _) ?_
  refine tt_obj (pc := 1) dX4_init_1 olX4_3 oi_obj oc_obj (by decide) (Nat.le_of_ble_eq_true rfl) ?_
  refine tt_aload_n (pc := 4) dX4_init_4 (.head _) ?_
  refine tt_bipush (pc := 5) dX4_init_5 ?_
  refine cc_newq (pc := 7) (t := 5) (len := 8) dX4_init_7 rfl klX4_9 (fun U hU => hU.2.2.2.2.2.1) (by decide) (by decide) (by decide) ?_
  refine cc_put (pc := 10) dX4_init_10 flX4_11 (Or.inr ⟨rfl, _, _, rfl⟩) ha (Nat.le_of_ble_eq_true rfl) rfl ?_
  refine tt_aload_n (pc := 13) dX4_init_13 (.head _) ?_
  refine tt_bipush (pc := 14) dX4_init_14 ?_
  refine tt_bipush (pc := 16) dX4_init_16 ?_
  refine cc_mna (kc := 23) (ks := 388) (idx := 17) (M := mX4_init) (pc := 18) (nn := 8) (kk0 := 8) (c1 := 9) (s1 := 72) dX4_init_18 klX4_17 (by decide) (by decide) (by decide) (by decide) (by decide) (by decide) (by decide) (by decide) ?_
  refine cc_put (pc := 22) dX4_init_22 flX4_19 (Or.inr ⟨rfl, _, _, rfl⟩) ha (Nat.le_of_ble_eq_true rfl) rfl ?_
  refine tt_aload_n (pc := 25) dX4_init_25 (.head _) ?_
  refine tt_bipush (pc := 26) dX4_init_26 ?_
  refine tt_bipush (pc := 28) dX4_init_28 ?_
  refine cc_mna (kc := 14) (ks := 284) (idx := 17) (M := mX4_init) (pc := 30) (nn := 8) (kk0 := 12) (c1 := 9) (s1 := 104) dX4_init_30 klX4_17 (by decide) (by decide) (by decide) (by decide) (by decide) (by decide) (by decide) (by decide) ?_
  refine cc_put (pc := 34) dX4_init_34 flX4_22 (Or.inr ⟨rfl, _, _, rfl⟩) ha (Nat.le_of_ble_eq_true rfl) rfl ?_
  refine tt_aload_n (pc := 37) dX4_init_37 (.head _) ?_
  refine tt_bipush (pc := 38) dX4_init_38 ?_
  refine tt_bipush (pc := 40) dX4_init_40 ?_
  refine cc_mna (kc := 5) (ks := 180) (idx := 17) (M := mX4_init) (pc := 42) (nn := 8) (kk0 := 12) (c1 := 9) (s1 := 104) dX4_init_42 klX4_17 (by decide) (by decide) (by decide) (by decide) (by decide) (by decide) (by decide) (by decide) ?_
  refine cc_put (pc := 46) dX4_init_46 flX4_25 (Or.inr ⟨rfl, _, _, rfl⟩) ha (Nat.le_of_ble_eq_true rfl) rfl ?_
  refine tt_aload_n (pc := 49) dX4_init_49 (.head _) ?_
  refine tt_bipush (pc := 50) dX4_init_50 ?_
  refine cc_newa (pc := 52) (t := 0) (len := 8) dX4_init_52 rfl (by decide) ka_int (by decide) (by decide) (by decide) ?_
  refine cc_put (pc := 54) dX4_init_54 flX4_28 (Or.inr ⟨rfl, _, _, rfl⟩) ha (Nat.le_of_ble_eq_true rfl) rfl ?_
  refine tt_aload_n (pc := 57) dX4_init_57 (.head _) ?_
  refine tt_bipush (pc := 58) dX4_init_58 ?_
  refine cc_newa (pc := 60) (t := 0) (len := 8) dX4_init_60 rfl (by decide) ka_int (by decide) (by decide) (by decide) ?_
  refine cc_put (pc := 62) dX4_init_62 flX4_32 (Or.inr ⟨rfl, _, _, rfl⟩) ha (Nat.le_of_ble_eq_true rfl) rfl ?_
  refine tt_aload_n (pc := 65) dX4_init_65 (.head _) ?_
  refine tt_bipush (pc := 66) dX4_init_66 ?_
  refine cc_newa (pc := 68) (t := 0) (len := 80) dX4_init_68 rfl (by decide) ka_int (by decide) (by decide) (by decide) ?_
  refine cc_put (pc := 70) dX4_init_70 flX4_35 (Or.inr ⟨rfl, _, _, rfl⟩) ha (Nat.le_of_ble_eq_true rfl) rfl ?_
  refine tt_aload_n (pc := 73) dX4_init_73 (.head _) ?_
  refine tt_bipush (pc := 74) dX4_init_74 ?_
  refine cc_newa (pc := 76) (t := 0) (len := 80) dX4_init_76 rfl (by decide) ka_int (by decide) (by decide) (by decide) ?_
  refine cc_put (pc := 78) dX4_init_78 flX4_38 (Or.inr ⟨rfl, _, _, rfl⟩) ha (Nat.le_of_ble_eq_true rfl) rfl ?_
  refine tt_aload_n (pc := 81) dX4_init_81 (.head _) ?_
  refine tt_iload_n (pc := 82) dX4_init_82 (.tail _ (.head _)) ?_
  refine cc_put (pc := 83) dX4_init_83 flX4_41 (Or.inr ⟨rfl, _, _, rfl⟩) ha (Nat.le_of_ble_eq_true rfl) rfl ?_
  show TT l D mX4_init Q0 1 4 86 [(0, .inr (some a)), (1, .inl x)] [] (HH h a 4 (fsR x h.length) (csR h.length))
  have wA := wt_rtr hw hN2 ht hx
  obtain ⟨τA, eτ⟩ : ∃ z, z = τ.set a 4 ++ rhR := ⟨_, rfl⟩
  obtain ⟨hA, eA⟩ : ∃ z, z = HH h a 4 (fsR x h.length) (csR h.length) := ⟨_, rfl⟩
  rw [← eτ, ← eA] at wA
  rw [← eA]
  have tA : τA[a]? = some 4 := by rw [eτ, List.getElem?_append_left (by rw [List.length_set]; exact t_at ht), List.getElem?_set_self (t_at ht)]
  have lA : hA.length = h.length + 32 := by rw [eA, HH_len]; rfl
  refine tt_aload_n (pc := 86) dX4_init_86 (.head _) ?_
  refine tw_getr (pc := 87) dX4_init_87 flX4_11 wA tA (by decide) rfl (fun fs kn e1 e2 tk => ?_)
  refine tt_iload_n (pc := 90) dX4_init_90 (.tail _ (.head _)) ?_
  refine tw_newR (P := PX) (kc := 0) (ks := 0) (pc := 91) dX4_init_91 klX4_9 wA (fun q hB tq wB fB => ?_)
  have pB : tPre τA (τA ++ [5]) := ⟨[5], rfl⟩
  refine tt_dup (pc := 94) dX4_init_94 ?_
  refine tt_iload_n (pc := 95) dX4_init_95 (.tail _ (.head _)) ?_
  refine tw_iconst (pc := 96) dX4_init_96 (by decide) (fun z1 hz1 => ?_)
  refine tw_iconst (pc := 97) dX4_init_97 (by decide) (fun z2 hz2 => ?_)
  refine tw_iconst (pc := 98) dX4_init_98 (by decide) (fun z3 hz3 => ?_)
  refine tt_callI (kc := 0) (ks := 0) (mc := 0) (ms := 0) (a := q) (as := [.inl x, .inl z1, .inl z2, .inl z3]) (st := [.inr (some q), .inl x, .inr (some kn)]) (pc := 99) dX4_init_99 lkX4_45 imX5_init rfl rfl (by decide) (by decide) (Nat.le_of_ble_eq_true rfl) (g_X5_init hN2 hN8 (by decide) (by decide) wB q tq x (by omega) (by omega) z1 z2 z3) (fun rv hC qC => ?_)
  obtain ⟨wC, fC, rfl⟩ := qC
  show TT _ _ _ _ _ _ _ _ [.inr (some q), .inl x, .inr (some kn)] _
  refine tw_ast (P := PX) (pc := 102) (ci := 5) (r := 14) (len := 8) dX4_init_102 wC (tup pB tk) rfl (by decide) tq (by decide) rfl rfl (by omega) (by omega) (by decide) (fun rs hD e9 g9 k9 wD fD => ?_)
  have fR : Fr PX τA hA hD := fB.tr ((fC.tr fD).sub pB)
  refine tt_mono ?_ (g_X4_initB hN2 hN8 (by decide) (by decide) wD a (tup pB tA) x (by omega) (by omega))
  intro pc' loc' st' h' hq
  rw [hQ]
  rcases hq with ⟨d, z, z2, wE, fE, z3⟩ | ⟨x', d, -, hr, -⟩ | ⟨v, C, d, -, hr, -⟩
  · refine Or.inl ⟨d, rfl, z2, ⟨τA ++ [5], wE, fun k r hk hr => ?_, tup pB tA, fun k r hk hr => ?_, fun k hk h9 => ?_, fun l0 => ?_⟩, z3⟩
    · rw [eτ, List.getElem?_append_left (by rw [List.length_append, List.length_set]; have := t_at hr; omega), List.getElem?_append_left (by rw [List.length_set]; exact t_at hr), List.getElem?_set_ne (Ne.symm hk)]
      exact hr
    · have hm : r ∈ rhR ++ [5] := by
        rw [eτ, List.append_assoc, List.getElem?_append_right (by rw [List.length_set]; exact hk)] at hr
        exact List.mem_of_getElem? hr
      clear hr
      revert r
      decide
    · have tk9 : τA[k]? = some 29 := by
        rw [eτ, List.getElem?_append_left (by rw [List.length_set]; exact t_at h9), List.getElem?_set_ne (Ne.symm hk)]
        exact h9
      have lk : k < h.length := by rw [hw.1]; exact t_at h9
      rw [fr_k29 (fR.tr (fE.sub pB)) (fun j => rfl) tk9 (by omega), eA, HH_ne hk lk]
    · have lA0 : L0 τA hA := by
        intro q0 fs0 hq0 hf0
        by_cases hl : q0 < h.length
        · have hl' : q0 < τ.length := by rw [← hw.1]; exact hl
          have hne : q0 ≠ a := fun z => by subst z; rw [tA] at hq0; cases hq0
          rw [eτ, List.getElem?_append_left (by rw [List.length_set]; exact hl'), List.getElem?_set_ne (Ne.symm hne)] at hq0
          rw [eA, HH_ne hne hl] at hf0
          exact l0 q0 fs0 hq0 hf0
        · exfalso
          rw [eτ, List.getElem?_append_right (by rw [List.length_set, ← hw.1]; omega)] at hq0
          have := List.mem_of_getElem? hq0
          revert this
          decide
      have lA1 := fr_l0 (fR.tr (fE.sub pB)) rfl rfl wA.1 lA0
      intro q0 fs0 hq0 hf0
      by_cases hl : q0 < τA.length
      · rw [List.getElem?_append_left hl] at hq0
        exact lA1 q0 fs0 hq0 hf0
      · rw [List.getElem?_append_right (by omega)] at hq0
        have := List.mem_of_getElem? hq0
        exact absurd this (by decide)
  · rcases hr with hr | ⟨hr, -⟩ <;> cases hr
  · cases hr
theorem made_lnk (hw : WT N 0 τ h) (hN : 2 ≤ N) {a : Nat} (ht : τ[a]? = some 29) : MADE N τ h a 0 (HH h a 0 [.inl 0, .inl 0, .inl 0, .inl 0, .inl 0, .inr (some h.length)] (csL h.length)) := by
  have ha : a < h.length := by rw [hw.1]; exact t_at ht
  have tA : (τ.set a 0 ++ rhL)[a]? = some 0 := by rw [List.getElem?_append_left (by rw [List.length_set]; exact t_at ht), List.getElem?_set_self (t_at ht)]
  refine ⟨_, wt_lnk hw hN ht, fun k r hk hr => ?_, tA, fun k r hk hr => ?_, fun k hk h9 => ?_, fun l0 q0 fs0 hq0 hf0 => ?_⟩
  · rw [List.getElem?_append_left (by rw [List.length_set]; exact t_at hr), List.getElem?_set_ne (Ne.symm hk)]
    exact hr
  · have hm : r ∈ rhL := by
      rw [List.getElem?_append_right (by rw [List.length_set]; exact hk)] at hr
      exact List.mem_of_getElem? hr
    revert hm
    clear hr
    revert r
    decide
  · exact HH_ne hk (by rw [hw.1]; exact t_at h9)
  · by_cases e : q0 = a
    · subst e
      rw [HH_at ha] at hf0
      cases hf0
      exact ⟨rfl, rfl⟩
    · by_cases hl : q0 < h.length
      · rw [List.getElem?_append_left (by rw [List.length_set, ← hw.1]; exact hl), List.getElem?_set_ne (Ne.symm e)] at hq0
        rw [HH_ne e hl] at hf0
        exact l0 q0 fs0 hq0 hf0
      · exfalso
        rw [List.getElem?_append_right (by rw [List.length_set, ← hw.1]; omega)] at hq0
        have := List.mem_of_getElem? hq0
        revert this
        decide
end TC4
