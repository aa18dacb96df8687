/-! THE LAW'S START. -/
section LST
variable {p : Program} {l : Launch} {e : Env} {s : State} {m : MethodId} {below : List Frame} {meth : Method} {c : Code} {b L : Nat} {xs : Nat → Int32}
set_option maxRecDepth 20000 in
set_option maxHeartbeats 4000000 in
theorem ls_tEx (hts : ∀ w ∈ lw_tbl, w.before #[Value.ref b] s = true) : tEx s :=
  ⟨va_Nw.of rfl (hts _ (List.mem_of_getElem? (i := 90) (by decide +kernel))), va_Nw.of rfl (hts _ (List.mem_of_getElem? (i := 220) (by decide +kernel))), va_AO.of (hts _ (List.mem_of_getElem? (i := 127) (by decide +kernel))), va_AO.of (hts _ (List.mem_of_getElem? (i := 85) (by decide +kernel))), va_AO.of (hts _ (List.mem_of_getElem? (i := 87) (by decide +kernel))), va_AO.of (hts _ (List.mem_of_getElem? (i := 134) (by decide +kernel))), va_AO.of (hts _ (List.mem_of_getElem? (i := 212) (by decide +kernel))), va_AO.of (hts _ (List.mem_of_getElem? (i := 219) (by decide +kernel))), hts (Cond.arrayOver (.array .int)) (List.mem_of_getElem? (i := 136) (by decide +kernel))⟩
set_option maxRecDepth 20000 in
set_option maxHeartbeats 4000000 in
theorem ls_str67 (hts : ∀ w ∈ lw_tbl, w.before #[Value.ref b] s = true) (hgv : (Jvm.Cond.and given_1 narrow_1).before #[Value.ref b] s = true) : ∃ sa : Nat, vk_R RX6 67 "no such link or router" sa s := by
  have hs := flat_of_before _ hgv
  obtain ⟨a, -, -, -, ha, -⟩ := Cond.exactly_spec (show (Cond.exactly (.string RX6 67) "java/lang/String").before #[Value.ref b] s = true from hs _ (by decide +kernel))
  exact ⟨a, vk_R.of (hts (Cond.stringRef RX6 67 "no such link or router") (List.mem_of_getElem? (i := 417) (by decide +kernel))) ha⟩
set_option maxRecDepth 20000 in
set_option maxHeartbeats 4000000 in
theorem ls_str78 (hts : ∀ w ∈ lw_tbl, w.before #[Value.ref b] s = true) (hgv : (Jvm.Cond.and given_1 narrow_1).before #[Value.ref b] s = true) : ∃ sa : Nat, vk_R RX6 78 "the link is laid, its ends are the same, or its cost is not 1 .. 60" sa s := by
  have hs := flat_of_before _ hgv
  obtain ⟨a, -, -, -, ha, -⟩ := Cond.exactly_spec (show (Cond.exactly (.string RX6 78) "java/lang/String").before #[Value.ref b] s = true from hs _ (by decide +kernel))
  exact ⟨a, vk_R.of (hts (Cond.stringRef RX6 78 "the link is laid, its ends are the same, or its cost is not 1 .. 60") (List.mem_of_getElem? (i := 453) (by decide +kernel))) ha⟩
set_option maxRecDepth 20000 in
set_option maxHeartbeats 4000000 in
theorem ls_str90 (hts : ∀ w ∈ lw_tbl, w.before #[Value.ref b] s = true) (hgv : (Jvm.Cond.and given_1 narrow_1).before #[Value.ref b] s = true) : ∃ sa : Nat, vk_R RX6 90 "no such link" sa s := by
  have hs := flat_of_before _ hgv
  obtain ⟨a, -, -, -, ha, -⟩ := Cond.exactly_spec (show (Cond.exactly (.string RX6 90) "java/lang/String").before #[Value.ref b] s = true from hs _ (by decide +kernel))
  exact ⟨a, vk_R.of (hts (Cond.stringRef RX6 90 "no such link") (List.mem_of_getElem? (i := 467) (by decide +kernel))) ha⟩
set_option maxRecDepth 20000 in
set_option maxHeartbeats 4000000 in
theorem ls_str95 (hts : ∀ w ∈ lw_tbl, w.before #[Value.ref b] s = true) (hgv : (Jvm.Cond.and given_1 narrow_1).before #[Value.ref b] s = true) : ∃ sa : Nat, vk_R RX6 95 "the link is not laid, or so already" sa s := by
  have hs := flat_of_before _ hgv
  obtain ⟨a, -, -, -, ha, -⟩ := Cond.exactly_spec (show (Cond.exactly (.string RX6 95) "java/lang/String").before #[Value.ref b] s = true from hs _ (by decide +kernel))
  exact ⟨a, vk_R.of (hts (Cond.stringRef RX6 95 "the link is not laid, or so already") (List.mem_of_getElem? (i := 468) (by decide +kernel))) ha⟩
set_option maxRecDepth 20000 in
set_option maxHeartbeats 4000000 in
theorem ls_str106 (hts : ∀ w ∈ lw_tbl, w.before #[Value.ref b] s = true) (hgv : (Jvm.Cond.and given_1 narrow_1).before #[Value.ref b] s = true) : ∃ sa : Nat, vk_R RX6 106 "no such prefix or router" sa s := by
  have hs := flat_of_before _ hgv
  obtain ⟨a, -, -, -, ha, -⟩ := Cond.exactly_spec (show (Cond.exactly (.string RX6 106) "java/lang/String").before #[Value.ref b] s = true from hs _ (by decide +kernel))
  exact ⟨a, vk_R.of (hts (Cond.stringRef RX6 106 "no such prefix or router") (List.mem_of_getElem? (i := 594) (by decide +kernel))) ha⟩
set_option maxRecDepth 20000 in
set_option maxHeartbeats 4000000 in
theorem ls_str108 (hts : ∀ w ∈ lw_tbl, w.before #[Value.ref b] s = true) (hgv : (Jvm.Cond.and given_1 narrow_1).before #[Value.ref b] s = true) : ∃ sa : Nat, vk_R RX6 108 "the prefix is attached so already" sa s := by
  have hs := flat_of_before _ hgv
  obtain ⟨a, -, -, -, ha, -⟩ := Cond.exactly_spec (show (Cond.exactly (.string RX6 108) "java/lang/String").before #[Value.ref b] s = true from hs _ (by decide +kernel))
  exact ⟨a, vk_R.of (hts (Cond.stringRef RX6 108 "the prefix is attached so already") (List.mem_of_getElem? (i := 595) (by decide +kernel))) ha⟩
set_option maxRecDepth 20000 in
set_option maxHeartbeats 4000000 in
theorem ls_str120 (hts : ∀ w ∈ lw_tbl, w.before #[Value.ref b] s = true) (hgv : (Jvm.Cond.and given_1 narrow_1).before #[Value.ref b] s = true) : ∃ sa : Nat, vk_R RX6 120 "no such link or end" sa s := by
  have hs := flat_of_before _ hgv
  obtain ⟨a, -, -, -, ha, -⟩ := Cond.exactly_spec (show (Cond.exactly (.string RX6 120) "java/lang/String").before #[Value.ref b] s = true from hs _ (by decide +kernel))
  exact ⟨a, vk_R.of (hts (Cond.stringRef RX6 120 "no such link or end") (List.mem_of_getElem? (i := 603) (by decide +kernel))) ha⟩
set_option maxRecDepth 20000 in
set_option maxHeartbeats 4000000 in
theorem ls_str125 (hts : ∀ w ∈ lw_tbl, w.before #[Value.ref b] s = true) (hgv : (Jvm.Cond.and given_1 narrow_1).before #[Value.ref b] s = true) : ∃ sa : Nat, vk_R RX6 125 "n is not 0 .. 500" sa s := by
  have hs := flat_of_before _ hgv
  obtain ⟨a, -, -, -, ha, -⟩ := Cond.exactly_spec (show (Cond.exactly (.string RX6 125) "java/lang/String").before #[Value.ref b] s = true from hs _ (by decide +kernel))
  exact ⟨a, vk_R.of (hts (Cond.stringRef RX6 125 "n is not 0 .. 500") (List.mem_of_getElem? (i := 648) (by decide +kernel))) ha⟩
set_option maxRecDepth 20000 in
set_option maxHeartbeats 4000000 in
theorem ls_str144 (hts : ∀ w ∈ lw_tbl, w.before #[Value.ref b] s = true) (hgv : (Jvm.Cond.and given_1 narrow_1).before #[Value.ref b] s = true) : ∃ sa : Nat, vk_R RX6 144 "no such router or prefix" sa s := by
  have hs := flat_of_before _ hgv
  obtain ⟨a, -, -, -, ha, -⟩ := Cond.exactly_spec (show (Cond.exactly (.string RX6 144) "java/lang/String").before #[Value.ref b] s = true from hs _ (by decide +kernel))
  exact ⟨a, vk_R.of (hts (Cond.stringRef RX6 144 "no such router or prefix") (List.mem_of_getElem? (i := 667) (by decide +kernel))) ha⟩
set_option maxRecDepth 20000 in
set_option maxHeartbeats 4000000 in
theorem ls_str146 (hts : ∀ w ∈ lw_tbl, w.before #[Value.ref b] s = true) (hgv : (Jvm.Cond.and given_1 narrow_1).before #[Value.ref b] s = true) : ∃ sa : Nat, vk_R RX6 146 "TTL is not 0 .. 60, or there are 64 packets" sa s := by
  have hs := flat_of_before _ hgv
  obtain ⟨a, -, -, -, ha, -⟩ := Cond.exactly_spec (show (Cond.exactly (.string RX6 146) "java/lang/String").before #[Value.ref b] s = true from hs _ (by decide +kernel))
  exact ⟨a, vk_R.of (hts (Cond.stringRef RX6 146 "TTL is not 0 .. 60, or there are 64 packets") (List.mem_of_getElem? (i := 668) (by decide +kernel))) ha⟩
set_option maxRecDepth 20000 in
set_option maxHeartbeats 4000000 in
theorem ls_tXw (hts : ∀ w ∈ lw_tbl, w.before #[Value.ref b] s = true) (hgv : (Jvm.Cond.and given_1 narrow_1).before #[Value.ref b] s = true) : tXw s := by
  have hs := flat_of_before _ hgv
  refine ⟨va_Nw.of rfl (hts _ (List.mem_of_getElem? (i := 379) (by decide +kernel))), va_Nw.of rfl (hts _ (List.mem_of_getElem? (i := 446) (by decide +kernel))), va_Nc.of (hs (.not (.castable cIA cIO)) (by decide +kernel)), fun q hq => ?_, fun y hy => ?_⟩
  · simp only [tXl, List.mem_cons, List.not_mem_nil, or_false] at hq
    rcases hq with rfl | rfl | rfl | rfl | rfl | rfl | rfl | rfl | rfl | rfl
    · exact ls_str67 hts hgv
    · exact ls_str78 hts hgv
    · exact ls_str90 hts hgv
    · exact ls_str95 hts hgv
    · exact ls_str106 hts hgv
    · exact ls_str108 hts hgv
    · exact ls_str120 hts hgv
    · exact ls_str125 hts hgv
    · exact ls_str144 hts hgv
    · exact ls_str146 hts hgv
  · simp only [tDc, List.mem_cons, List.not_mem_nil, or_false] at hy
    rcases hy with rfl | rfl | rfl
    · exact va_Nw.of rfl (hts _ (List.mem_of_getElem? (i := 381) (by decide +kernel)))
    · exact va_Nw.of rfl (hts _ (List.mem_of_getElem? (i := 383) (by decide +kernel)))
    · exact va_Nw.of rfl (hts _ (List.mem_of_getElem? (i := 385) (by decide +kernel)))
set_option maxRecDepth 20000 in
set_option maxHeartbeats 4000000 in
theorem ls_tXh (hts : ∀ w ∈ lw_tbl, w.before #[Value.ref b] s = true) (hgv : (Jvm.Cond.and given_1 narrow_1).before #[Value.ref b] s = true) : tXh (lA s) s s.heap := by
  have hs := flat_of_before _ hgv
  exact ⟨vx_Zqof (hts _ (List.mem_of_getElem? (i := 404) (by decide +kernel))) (hts (.initialized Bundle.tN) (List.mem_of_getElem? (i := 70) (by decide +kernel))) (hs _ (by decide +kernel)) (fun a ha z => absurd z (Nat.not_le.mpr ha)), vx_Zqof (hts _ (List.mem_of_getElem? (i := 406) (by decide +kernel))) (hts (.initialized Bundle.tN) (List.mem_of_getElem? (i := 70) (by decide +kernel))) (hs _ (by decide +kernel)) (fun a ha z => absurd z (Nat.not_le.mpr ha))⟩
theorem ls_D (hgd : ∀ w ∈ lw_good, w.before #[Value.ref b] s = true) : ∃ D : va_G, va_K D vwCl [] s := by
  obtain ⟨c0, i0, h0⟩ := u_known (C := RX0) (T := TX0) (N := 6) (n := 6) hgd uwX0 (hgd _ knX0)
  obtain ⟨c1, i1, h1⟩ := u_known (C := RX1) (T := TX1) (N := 6) (n := 6) hgd uwX1 (hgd _ knX1)
  obtain ⟨c2, i2, h2⟩ := u_known (C := RX2) (T := TX2) (N := 3) (n := 3) hgd uwX2 (hgd _ knX2)
  obtain ⟨c3, i3, h3⟩ := u_known (C := RX3) (T := TX3) (N := 5) (n := 5) hgd uwX3 (hgd _ knX3)
  obtain ⟨c4, i4, h4⟩ := u_known (C := RX4) (T := TX4) (N := 9) (n := 9) hgd uwX4 (hgd _ knX4)
  obtain ⟨c5, i5, h5⟩ := u_known (C := RX5) (T := TX5) (N := 4) (n := 4) hgd uwX5 (hgd _ knX5)
  obtain ⟨c6, i6, h6⟩ := u_known (C := RX6) (T := TX6) (N := 7) (n := 7) hgd uwX6 (hgd _ knX6)
  obtain ⟨c7, i7, h7⟩ := u_known (C := RX7) (T := TX7) (N := 31) (n := 31) hgd uwX7 (hgd _ knX7)
  refine ⟨(fun k => match k with | 0 => c0 | 1 => c1 | 2 => c2 | 3 => c3 | 4 => c4 | 5 => c5 | 6 => c6 | _ => c7, fun k => match k with | 0 => i0 | 1 => i1 | 2 => i2 | 3 => i3 | 4 => i4 | 5 => i5 | 6 => i6 | _ => i7), fun k q hq => ?_, fun k q h => by simp at h⟩
  match k, hq with
  | 0, hq => cases hq; exact h0
  | 1, hq => cases hq; exact h1
  | 2, hq => cases hq; exact h2
  | 3, hq => cases hq; exact h3
  | 4, hq => cases hq; exact h4
  | 5, hq => cases hq; exact h5
  | 6, hq => cases hq; exact h6
  | 7, hq => cases hq; exact h7
  | k + 8, hq => simp [vwCl] at hq
end LST
section LS1
variable {h h1 h3 : List tC} {N : Nat} {pk : Int} {τ τ' : List Nat} {px : Nat}
theorem arv_app {r i : Nat} {x : Int32} {c : tC} (hl : h.length = τ.length) (hr : r ≠ 29) (a : ARV (τ ++ [29]) (h ++ [c]) r i x) : ARV τ h r i x := by
  obtain ⟨k, t, xs, a1, a2, a3⟩ := a
  by_cases hk : k < τ.length
  · rw [List.getElem?_append_left hk] at a1
    rw [List.getElem?_append_left (by omega)] at a2
    exact ⟨k, t, xs, a1, a2, a3⟩
  · rw [List.getElem?_append_right (by omega)] at a1
    have := List.mem_of_getElem? a1
    simp at this
    exact absurd this hr
theorem xq_keep (hw : WT N pk τ h1) (tx : τ[px]? = some 6) (hk : ∀ k : Nat, k < h1.length → h3[k]? = h1[k]?) {i q : Nat} (a : XQ h3 px i q) : XQ h1 px i q := by
  obtain ⟨fs, e, -⟩ := wt_obj hw tx (by decide)
  obtain ⟨kl, gk, tk⟩ := wt_ref (k := 1) hw tx (by decide) e rfl
  obtain ⟨rs, er, -⟩ := wt_refs hw tk rfl (by decide)
  obtain ⟨fa, ka, ra, a1, a2, a3, a4⟩ := a
  rw [hk px (t_at e), e] at a1; cases a1
  rw [gk] at a2; cases a2
  rw [hk kl (t_at er)] at a3
  exact ⟨_, _, ra, e, gk, a3, a4⟩
theorem li_start (w1 : WT N 0 τ h1) (t0 : τ[0]? = some 6) (l0 : L0 τ h1) (m10 : ∀ (i : Nat) (v : Int32), ARV τ h1 10 i v → v.toInt = -1) (dx : ∀ i j q : Nat, XQ h1 0 i q → XQ h1 0 j q → i = j) {h2 : List tC} {c0 : tC} (md : MADM N (τ ++ [29]) (h1 ++ [c0]) h1.length h2) : ∃ τ3 : List Nat, LIq N 0 τ3 (h2 ++ [.inl (9, [0])]) 0 h1.length h2.length := by
  obtain ⟨τ', w2, up, ta, j1, j2, kp, lz, lz33, m37, pkc⟩ := md
  have hpos : 0 < h1.length := by have := t_at t0; have := w1.1; omega
  have l2 := w2.1
  have ka := t_at ta
  have u0 : τ'[0]? = some 6 := up 0 6 (by omega) (by rw [List.getElem?_append_left (t_at t0)]; exact t0)
  have w3 : WT N 0 (τ' ++ [29]) (h2 ++ [.inl (9, [0])]) := wt_addL w2 rfl (by decide) (fun j r c h1 _ h29 => by
    have := List.mem_of_getElem? h1
    simp at this
    exact absurd this h29)
  have keep2 : ∀ k : Nat, k < h1.length → h2[k]? = h1[k]? := fun k hk => by
    rw [kp k (by omega) (by rw [List.length_append]; omega), List.getElem?_append_left hk]
  have keep : ∀ k : Nat, k < h1.length → (h2 ++ [(.inl (9, [0]) : tC)])[k]? = h1[k]? := fun k hk => by
    rw [List.getElem?_append_left (by omega)]
    exact keep2 k hk
  refine ⟨τ' ++ [29], ⟨by decide, by decide, w3, ?_, ?_, ?_, ⟨0, by simp⟩, ?_, ?_, fun i j q a b => dx i j q (xq_keep w1 t0 keep a) (xq_keep w1 t0 keep b), fun i x y hi a b => ?_⟩, fun i x y hi a b => ?_, fun i x y a b => ?_, fun n a => ?_⟩
  · rw [List.getElem?_append_left (t_at u0)]; exact u0
  · rw [List.getElem?_append_left ka]; exact ta
  · rw [l2]; exact tlast_at τ' 29
  · intro r l li k lo hi u hr hl hli a b c d e
    exact j1 r l li k lo hi u hr hl hli (arv_app l2 (by decide) a) b (arv_app l2 (by decide) c) (arv_app l2 (by decide) d) (arv_app l2 (by decide) e)
  · intro l u ld a b
    exact j2 l u ld (arv_app l2 (by decide) a) (arv_app l2 (by decide) b)
  · have ey := lz i y (arv_app l2 (by decide) b)
    obtain ⟨q, fs, a1, a2, a3⟩ := a
    have b1 := xq_keep w1 t0 keep a1
    have tq := xq_role w1 t0 b1
    rw [keep q (by have := t_at tq; have := w1.1; omega)] at a2
    have := (l0 q fs tq a2).1
    rw [this] at a3
    cases a3
    subst ey
    exact Iff.rfl
  · have ey := lz33 i y (arv_app l2 (by decide) b)
    obtain ⟨q, a1, fs, v, a2, a3, a4⟩ := a
    have b1 := xq_keep w1 t0 keep a1
    have tq := xq_role w1 t0 b1
    rw [keep q (by have := t_at tq; have := w1.1; omega)] at a2
    have := (l0 q fs tq a2).2
    rw [this] at a3
    cases a3
    subst ey
    exact a4.symm
  · have ey := m37 i y (arv_app l2 (by decide) b)
    obtain ⟨k, t, xs, z1, z2, z3⟩ := arv_app l2 (by decide) a
    obtain ⟨q, tq⟩ := wt_role10 w1 t0
    have lq : q < h1.length := by have := t_at tq; have := w1.1; omega
    have ek := w2.2.2.2 k q 10 (by decide) z1 (up q 10 (by omega) (by rw [List.getElem?_append_left (t_at tq)]; exact tq))
    subst ek
    rw [keep2 k lq] at z2
    rw [ey]
    exact m10 i x ⟨k, t, xs, tq, z2, z3⟩
  · obtain ⟨fs, e, g⟩ := a
    rw [List.getElem?_append_left (by omega)] at e
    have := PKC.uq ⟨fs, e, g⟩ pkc
    subst this
    rfl
end LS1
set_option maxHeartbeats 4000000 in
theorem whole_start {p : Program} {e : Env} {s : State} {m : MethodId} {below : List Frame} {meth : Method} {c : Code} (l : Launch) (hl0 : l.stackTraces = false) {b L : Nat} {xs : Nat → Int32} (hL : L ≤ 2561) (C0 : lw_At p s m meth c b L xs) : W p l e room_1 s m #[Value.ref b] below meth c s.heap [] 0 0 (lw_Z below #[Value.ref b] s) (entryFrame m ([Value.ref b] : List Value).toArray 7) := by
  obtain ⟨hx, hb, hr, hml, hown, hts, hX, hbl, hlocks, hgv⟩ := id C0
  have hgd : ∀ w ∈ lw_good, w.before #[Value.ref b] s = true := fun w hw => hts w (lw_good_in hw)
  obtain ⟨D, hK⟩ := ls_D hgd
  have C : LC p l s m meth c b L xs := ⟨⟨hx, hb, hml, hown, hgd, fun q hq => hq, by decide, by decide, (fun z => by cases z), ls_tEx hts⟩, hX, hbl, hr, hlocks, ls_tXw hts hgv, ls_tXh hts hgv, hL⟩
  have hP : va_P D vwCl [] s.heap := fun k q h => by simp at h
  have hD : va_D (lA s) [] := ⟨fun i j p q h => by simp at h, fun k q h => by simp at h⟩
  have hl := lv_entry ([.ref b]) (n := 7) (Nat.le_of_ble_eq_true rfl)
  obtain ⟨hN2, hN8⟩ := cN_b (cv L xs)
  suffices K : LT p l e s m below meth c b D 3000 30000 0 [] [] [] by
    rw [lg_entry_eq]
    exact K s.heap [] 0 0 _ [] [] [] ⟨⟨rfl, fun k c h => by simp at h⟩, hP, hD, hK, va_S.rf⟩ ⟨_, hl, List.mem_cons_self, fun q hq => nomatch hq⟩ rfl (by decide) (by decide)
  refine lt_less (kc' := 2500 + 1) (ks' := 25000 + 7) (by decide) (by decide) ?_
  refine lt_new (ci := 6) (tfs := [.inr none, .inr none, .inr none, .inr none, .inl 0, .inl 0, .inr none]) (fsV := [.null, .null, .null, .null, .int 0, .int 0, .null]) (pc := 0) C dL_law_0 clX6 klL_8 knX6 kiX6 (fun j hj ty hty => by
    rw [tyX6_ok j hj] at hty
    cases hty
    match j, hj with
    | 0, _ => rfl
    | 1, _ => rfl
    | 2, _ => rfl
    | 3, _ => rfl
    | 4, _ => rfl
    | 5, _ => rfl
    | 6, _ => rfl) (fun as => ⟨_, _, rfl, rfl, _, _, rfl, rfl, _, _, rfl, rfl, _, _, rfl, rfl, _, _, rfl, rfl, _, _, rfl, rfl, _, _, rfl, rfl, rfl⟩) ?_
  refine lt_dup (pc := 3) C dL_law_3 ?_
  refine lt_cell (pc := 4) C dL_law_4 dL_law_5 dL_law_6 (Nat.le_of_ble_eq_true rfl) ?_
  refine lt_less (kc' := 733 + 1700) (ks' := 6770 + 18000) (by decide) (by decide) ?_
  refine lt_callI (kc := 1700) (ks := 18000) (mc := 733) (ms := 6770) (a := 0) (as := [.inl (cv L xs)]) (st := [.inr (some 0)]) (pc := 9) C dL_law_9 lkL_47 imX6_init rfl rfl (by decide) (by decide) (Nat.le_of_ble_eq_true rfl) (g_X6_init (cv L xs)) (fun rv h1 q1 => ?_)
  obtain ⟨⟨τ, w1, t0, rol, l0, m10, dx⟩, rfl⟩ := q1
  show LT p l e s m below meth c b D _ _ 12 _ [.inr (some 0)] _
  refine lt_astore_n (pc := 12) C dL_law_12 (by decide) (by decide) ?_
  show LT p l e s m below meth c b D _ _ 13 (tSt _ 1 (.inr (some 0))) [] _
  refine lt_loc [(1, .inr (some 0))] (by simp [tSt]) ?_
  refine lt_less (kc' := 1690 + 1) (ks' := 17900 + 31) (by decide) (by decide) ?_
  refine lt_new (ci := 7) (tfs := [.inl 0, .inl 0, .inr none, .inr none, .inr none, .inr none, .inr none, .inr none, .inr none, .inr none, .inr none, .inr none, .inr none, .inr none, .inr none, .inr none, .inr none, .inl 0, .inr none, .inr none, .inr none, .inr none, .inr none, .inr none, .inl 0, .inr none, .inr none, .inr none, .inr none, .inr none, .inr none]) (fsV := [.int 0, .int 0, .null, .null, .null, .null, .null, .null, .null, .null, .null, .null, .null, .null, .null, .null, .null, .int 0, .null, .null, .null, .null, .null, .null, .int 0, .null, .null, .null, .null, .null, .null]) (pc := 13) C dL_law_13 clX7 klL_50 knX7 kiX7 (fun j hj ty hty => by
    rw [tyX7_ok j hj] at hty
    cases hty
    match j, hj with
    | 0, _ => rfl
    | 1, _ => rfl
    | 2, _ => rfl
    | 3, _ => rfl
    | 4, _ => rfl
    | 5, _ => rfl
    | 6, _ => rfl
    | 7, _ => rfl
    | 8, _ => rfl
    | 9, _ => rfl
    | 10, _ => rfl
    | 11, _ => rfl
    | 12, _ => rfl
    | 13, _ => rfl
    | 14, _ => rfl
    | 15, _ => rfl
    | 16, _ => rfl
    | 17, _ => rfl
    | 18, _ => rfl
    | 19, _ => rfl
    | 20, _ => rfl
    | 21, _ => rfl
    | 22, _ => rfl
    | 23, _ => rfl
    | 24, _ => rfl
    | 25, _ => rfl
    | 26, _ => rfl
    | 27, _ => rfl
    | 28, _ => rfl
    | 29, _ => rfl
    | 30, _ => rfl
    | q + 31, hj => exact absurd hj (by omega)) (fun as => ⟨_, _, rfl, rfl, _, _, rfl, rfl, _, _, rfl, rfl, _, _, rfl, rfl, _, _, rfl, rfl, _, _, rfl, rfl, _, _, rfl, rfl, _, _, rfl, rfl, _, _, rfl, rfl, _, _, rfl, rfl, _, _, rfl, rfl, _, _, rfl, rfl, _, _, rfl, rfl, _, _, rfl, rfl, _, _, rfl, rfl, _, _, rfl, rfl, _, _, rfl, rfl, _, _, rfl, rfl, _, _, rfl, rfl, _, _, rfl, rfl, _, _, rfl, rfl, _, _, rfl, rfl, _, _, rfl, rfl, _, _, rfl, rfl, _, _, rfl, rfl, _, _, rfl, rfl, _, _, rfl, rfl, _, _, rfl, rfl, _, _, rfl, rfl, _, _, rfl, rfl, _, _, rfl, rfl, rfl⟩) ?_
  refine lt_dup (pc := 16) C dL_law_16 ?_
  refine lt_cell (pc := 17) C dL_law_17 dL_law_18 dL_law_19 (Nat.le_of_ble_eq_true rfl) ?_
  have wn : WT (cN (cv L xs)) 0 (τ ++ [29]) (h1 ++ [mod0]) := wt_addL w1 rfl (by decide) (fun j r c h1 _ h29 => by
    have := List.mem_of_getElem? h1
    simp at this
    exact absurd this h29)
  have tn : (τ ++ [29])[h1.length]? = some 29 := by rw [w1.1]; exact tlast_at τ 29
  have en : (h1 ++ [mod0])[h1.length]? = some mod0 := by simp
  have hns : ∀ (k r : Nat), (τ ++ [29])[k]? = some r → r ≠ 7 ∧ r < 30 := by
    intro k r hk
    by_cases hk1 : k < τ.length
    · rw [List.getElem?_append_left hk1] at hk
      have := rol k r hk
      unfold manyR at this
      omega
    · rw [List.getElem?_append_right (by omega)] at hk
      have := List.mem_of_getElem? hk
      simp at this
      omega
  refine lt_less (kc' := 27 + 1600) (ks' := 5276 + 12000) (by decide) (by decide) ?_
  refine lt_callI (kc := 1600) (ks := 12000) (mc := 27) (ms := 5276) (a := h1.length) (as := [.inl (cv L xs)]) (st := [.inr (some h1.length)]) (pc := 22) C dL_law_22 lkL_52 imX7_init rfl rfl (by decide) (by decide) (Nat.le_of_ble_eq_true rfl) (g_X7_init (cv L xs) wn h1.length tn en hns) (fun rv h2 q2 => ?_)
  obtain ⟨md, rfl⟩ := q2
  show LT p l e s m below meth c b D _ _ 25 _ [.inr (some h1.length)] _
  refine lt_astore_n (pc := 25) C dL_law_25 (by decide) (by decide) ?_
  show LT p l e s m below meth c b D _ _ 26 (tSt _ 2 (.inr (some h1.length))) [] _
  refine lt_loc [(1, .inr (some 0)), (2, .inr (some h1.length))] (by simp [tSt]) ?_
  refine lt_iconst (pc := 26) C dL_law_26 (by decide) (fun z1 hz1 => ?_)
  refine lt_less (kc' := 1590 + 1) (ks' := 11000 + 1) (by decide) (by decide) ?_
  refine lt_newl (pc := 27) C dL_law_27 hz1 ?_
  refine lt_astore_n (pc := 29) C dL_law_29 (by decide) (by decide) ?_
  show LT p l e s m below meth c b D _ _ 30 (tSt _ 3 (.inr (some h2.length))) [] _
  refine lt_loc [(1, .inr (some 0)), (2, .inr (some h1.length)), (3, .inr (some h2.length))] (by simp [tSt]) ?_
  refine lt_iconst (pc := 30) C dL_law_30 (by decide) (fun i hi => ?_)
  refine lt_istore (pc := 31) C dL_law_31 (by decide) (by decide) ?_
  refine lt_loc (lcI 0 h1.length h2.length i) (by simp [tSt, lcI]) ?_
  obtain ⟨τ3, LI⟩ := li_start w1 t0 l0 m10 dx md
  exact lt_less (by decide) (by decide) (lw_loop C hl0 hN2 hN8 513 i 1 0 τ3 _ (by omega) (by decide) hi LI)
