/-! THE LAW'S HELPERS: they call a method that may throw, and catch all. -/
def tWSH (y : MethodName) (b : ByteArray) (n : Nat) (r : Option FieldType) (hh : List (Nat × Nat × Nat × Nat)) : List Cond := .codeWith y b n r hh :: lw_good
def THc (l : Launch) (D : va_G) (y : MethodName) (b : ByteArray) (n : Nat) (r : Option FieldType) (hh : List (Nat × Nat × Nat × Nat)) (F L mc ms : Nat) (as : List tV) (h : List tC) (Qr : Option tV → List tC → Prop) : Prop :=
  ∀ (ws : va_W) (tys : List (ClassId × FieldType)) (sz : Nat) (av : List Value), tHR h ws tys → tsr (ws.map Prod.fst) as av → vx_Met l y (tWSH y b n r hh) (tRm F L mc ms) (tPcX D ws tys sz av) (tQc D ws sz Qr) (fun _ _ _ => False) mc ms (va_A ws sz)
/-- the handler that takes E, thrown at cp -/
def tHa (l : Launch) (D : va_G) (M : tM) (Q : Nat → tL → List tV → List tC → Prop) (kc ks : Nat) (hh : List (Nat × Nat × Nat × Nat)) (cp : Nat) (h : List tC) (E : String) : Prop :=
  ∃ (pre : List ExceptionTableEntry) (x : ExceptionTableEntry) (suf : List ExceptionTableEntry), tableOf hh = pre ++ x :: suf ∧ (∀ z ∈ pre, z.catchType ≠ 0 ∧ Cond.classLink M.1 z.catchType cIO ∈ lw_good ∧ E = cIA) ∧ covers x cp = true ∧ x.catchType ≠ 0 ∧ Cond.classLink M.1 x.catchType E ∈ lw_good ∧ (E = cIO ∨ E = cIA) ∧
    ((∃ i : Nat, decode M.2.1 x.handlerPc = .ok (.astore i, 2) ∧ i < M.2.2.1 ∧ TT l D M Q kc ks (x.handlerPc + 2) [] [] h) ∨ (∃ i : Fin 4, decode M.2.1 x.handlerPc = .ok (.astore_n i, 1) ∧ (i : Nat) < M.2.2.1 ∧ TT l D M Q kc ks (x.handlerPc + 1) [] [] h))
section THL
variable {l : Launch} {D : va_G}
theorem tx_free {A : Nat → Prop} {H0 H : Heap} {s : State} {h : List tC} {ws : va_W} {tys : List (ClassId × FieldType)} {locs : List Loc} (hw : tWd D A H0 s h ws tys H locs) (hA : ∀ q, H0.size ≤ q → A q) : ∀ q, va_A ws H.size q → A q := by
  intro q hq
  rcases hq with ⟨k, e, hk⟩ | hq
  · exact hw.2.2.1.2 k _ hk
  · exact hA q (Nat.le_trans hw.2.2.2.2.1 hq)
theorem tx_keep {A : Nat → Prop} {H0 H H1 : Heap} {s st₀ t : State} {h : List tC} {ws : va_W} {tys : List (ClassId × FieldType)} {locs L : List Loc} (hw : tWd D A H0 s h ws tys H locs) (hA : ∀ q, H0.size ≤ q → A q) (h0 : st₀.heap = H) (e1 : H1 = t.heap) (hL : ∀ q ∈ L, va_A ws H.size q.base) (hF : va_F (va_A ws H.size) st₀ t) : va_S A H0 H1 (locs ++ L) := by
  obtain ⟨hz, hk⟩ := hF
  rw [h0] at hz hk
  have hF := tx_free hw hA
  have hS := hw.2.2.2.2
  exact ⟨Nat.le_trans hS.1 (by rw [e1]; exact hz), fun q h1 h2 => by rw [e1, hk q (Nat.lt_of_lt_of_le h1 hS.1) (fun z => h2 (hF q z))]; exact hS.2.1 q h1 h2, fun q hq => by
      rcases List.mem_append.mp hq with h | h
      · exact hS.2.2 q h
      · exact hF _ (hL q h)⟩
theorem thc_of {y y2 : MethodName} {b b2 : ByteArray} {n n2 : Nat} {r r2 : Option FieldType} {hh : List (Nat × Nat × Nat × Nat)} {F L F2 L2 mc ms mc2 ms2 kc2 ks2 cp idx ci N a np : Nat} {T : u_T} {fs as as2 stR : List tV} {locC : tL} {h : List tC} {Qr Qc : Option tV → List tC → Prop} {Qx : String → Prop} (hy : plainName y.cls = true) (hcl : y.cls = RL) (hen : as.length ≤ n)
    (k : TT l D (RL, b, n, F, L, false) (fun pc' loc' st' h' => pc' = cp ∧ loc' = locC ∧ st' = as2.reverse ++ .inr (some a) :: stR ∧ h' = h) 0 0 0 (tEn 0 as) [] h)
    (hd : decode b cp = .ok (.invokevirtual idx, 3)) (hk : tLk RL idx y2 b2 n2 r2 np) (hi : Cond.instanceMethod y2 ∈ lw_good) (hsel : Cond.selects y2.cls y2 y2 ∈ lw_good) (hC : vwCl[ci]? = some (y2.cls, T, N)) (ha : h[a]? = some (.inr (.inr (ci, fs)))) (hn : as2.length = np) (hF : F2 + 1 ≤ F) (hL : 8 + (n2 + 11) + L2 ≤ L) (hst : stR.length ≤ 8)
    (hM : TXc l D y2 b2 n2 r2 F2 L2 mc2 ms2 (.inr (some a) :: as2) h Qc Qx) (em : mc = mc2 + kc2) (es : ms = ms2 + ks2)
    (kk : ∀ rv h', Qc rv h' → TT l D (RL, b, n, F, L, false) (tRt b r Qr) kc2 ks2 (cp + 3) locC (rv.toList ++ stR) h')
    (kx : ∀ E, Qx E → tHa l D (RL, b, n, F, L, false) (tRt b r Qr) kc2 ks2 hh cp h E) : THc l D y b n r hh F L mc ms as h Qr := by
  subst em; subst es
  intro ws tys sz av hHR hsr
  refine vx_ofWH (cc := b) (maxL := n) (ret := r) (hh := hh) hy rfl ?_
  intro p e s m args below meth c s₁ B hml hv
  obtain ⟨⟨rfl, hsz, hP, hK, hD0, hE⟩, hXw, hXh⟩ := hv
  have hts := atoms_spec (ws := tWSH y b n r hh) B.pre
  have htab := vx_table (x := y) B (hts _ List.mem_cons_self)
  have hown : s.vm.findClass RL = some m.cls := by rw [← hcl]; exact findClass_of_methodNamed B.named
  subst hsz
  have hD := hD0.self (sz := s.heap.size)
  have hlen := tsl_len hsr
  have hl := lv_entry av (n := n) (by rw [hlen]; exact hen)
  rw [lg_entry_eq]
  have hgd : ∀ w ∈ lw_good, w.before av.toArray s = true := fun w hw => hts w (List.mem_cons_of_mem _ hw)
  have hTF : tFx p l (headSpec (tWSH y b n r hh) (tRm F L (mc2 + kc2) (ms2 + ks2))).room s m av.toArray meth c (va_A ws s.heap.size) s.heap (RL, b, n, F, L, false) := ⟨B.exec, B.bytes, hml, hown, hgd, fun q hq => Or.inr hq, Nat.le_refl F, Nat.le_refl L, (fun z => by cases z), hE⟩
  have hAA : ∀ q, s.heap.size ≤ q → va_A ws s.heap.size q := fun q hq => Or.inr hq
  -- what a return comes to
  have fin : ∀ (pc' : Nat) (loc' : tL) (st' : List tV) (h' : List tC) (H' : Heap) (locs' : List Loc) (cells' slots' : Nat) (ls' : Array Slot) (sv' : List Value) (ws' : va_W) (tys' : List (ClassId × FieldType)), tRt b r Qr pc' loc' st' h' → tWd D (va_A ws s.heap.size) s.heap s h' ws' tys' H' locs' → tsr (ws'.map Prod.fst) st' sv' → tPre (ws.map Prod.fst) (ws'.map Prod.fst) → cells' ≤ mc2 + kc2 → slots' ≤ ms2 + ks2 →
      W p l e (headSpec (tWSH y b n r hh) (tRm F L (mc2 + kc2) (ms2 + ks2))).room s m av.toArray below meth c H' locs' cells' slots' (vx_MQ below (tQc D ws s.heap.size Qr) (fun _ _ _ => False) av.toArray s (mc2 + kc2) (ms2 + ks2) (va_A ws s.heap.size)) (F0 m pc' ls' sv') := by
    intro pc' loc' st' h' H' locs' cells' slots' ls' sv' ws' tys' hq hw' hs' hp hc' hsl'
    have hS2 := hw'.2.2.2.2.2.2
    refine vx_ret (W.widen hc' hsl' ?_)
    have fin : ∀ (rv : Option tV) (v : Option Value), tOv (ws'.map Prod.fst) rv v → Qr rv h' → ∀ t : State, t.heap = H' → s.WarmedH t.vm → tQc D ws s.heap.size Qr av.toArray s (.returned v) t := fun rv v hv hQ t ht hW =>
      ⟨⟨rv, v, h', ws', tys', rfl, hv, hQ, hw'.1, hp, by rw [ht]; exact hw'.2.1, va_K.moved hW.alike hw'.2.2.2.1, hw'.2.2.1⟩, hw'.2.2.2.2.F ht⟩
    rcases hq with ⟨d, rfl, rfl, hQ⟩ | ⟨x, d, rfl, hr, hQ⟩ | ⟨v, C, d, rfl, rfl, hQ⟩
    · have e1 : sv' = [] := hs'
      subst e1
      exact W.vret B.exec B.bytes B.returns (fin none none trivial hQ) hS2 d
    · obtain ⟨w, s1, e1, r1, e2⟩ := hs'
      have r1' : w = .int x := r1
      have e2 : s1 = [] := e2
      subst e2; subst r1'; subst e1
      rcases hr with rfl | ⟨rfl, hx⟩
      · exact W.iret B.exec B.bytes B.returns (fin (some (.inl x)) (some (.int x)) rfl hQ) hS2 d
      · exact W.zret B.exec B.bytes B.returns (by rcases hx with rfl | rfl <;> rfl) (fin (some (.inl x)) (some (.int x)) rfl hQ) hS2 d
    · obtain ⟨w, s1, e1, r1, e2⟩ := hs'
      have e2 : s1 = [] := e2
      subst e2; subst e1
      refine W.aret B.exec B.bytes B.returns (Or.inl ⟨C, rfl⟩) ?_ (fin (some (.inr v)) (some w) r1 hQ) hS2 d
      cases v with
      | none => exact Or.inl r1
      | some q => obtain ⟨a, _, h⟩ := r1; exact Or.inr ⟨a, h⟩
  refine k p e _ s m av.toArray below meth c (va_A ws s.heap.size) s.heap _ hTF s.heap [] 0 0 _ [] ws tys ⟨hHR, hP, hD, hK, va_S.rf⟩ ⟨_, hl, tEn_ok 0 hsr⟩ rfl (Nat.zero_le _) (Nat.zero_le _) ?_
  intro pc' loc' st' h' H' locs' cells' slots' ls' sv' ws' tys' hq hw' hl' hs' hp hc' hsl'
  obtain ⟨rfl, rfl, rfl, rfl⟩ := hq
  have hc0 : cells' = 0 := Nat.le_zero.mp hc'
  have hsl0 : slots' = 0 := Nat.le_zero.mp hsl'
  subst hc0; subst hsl0
  obtain ⟨x, y', rfl, hx, w2, rest, rfl, r2', hs2⟩ := tsr_app hs'
  have hx' := tsr_rev hx
  rw [List.reverse_reverse] at hx'
  obtain ⟨q, vs, h1, h2, h3⟩ := tobj hw'.1 ha r2'
  have hMet := hM ws' tys' H'.size (.ref q :: x.reverse) hw'.1 ⟨_, _, rfl, by rw [← h1]; exact r2', hx'⟩
  subst h1
  obtain ⟨lv, hl1, hl2⟩ := id hl'
  have hl0 : x.reverse.length = np := by rw [List.length_reverse, tsr_len hx, List.length_reverse]; exact hn
  have hr := vx_runV (p := p) (e := e) (below := below) (meth := meth) (locs := locs') (cells := 0) (slots := 0) (g := F0 m pc' ls' (x ++ .ref q :: rest)) (rest := rest) (As := x.reverse) (C := y2.cls) (bytes := b2) (maxL := n2) (ret := r2) (n := np) (index := idx) ⟨hTF.1, hTF.2.1, hTF.2.2.1, hTF.2.2.2.1, hTF.2.2.2.2.1⟩ hMet ⟨tLk_B hk hTF.2.2.2.2.1 (Nat.le_trans hF hTF.2.2.2.2.2.2.1) (Nat.le_trans hL hTF.2.2.2.2.2.2.2.1), hTF.2.2.2.2.1 _ hi, hTF.2.2.2.2.1 _ hsel⟩ ⟨tPcX_blind, va_recv hw'.2.2.2.1 hw'.2.1 (ci := ci) (q0 := a) hC h2, tPcX_at hw'.2.1 hw'.2.2.2.1 hw'.2.2.1 hE hXw hXh hw'.2.2.2.2 hAA⟩ rfl hl0 hl1.1 (by rw [List.reverse_reverse]) (lv_room (by rw [tsr_cat hs2]; exact hst)) hd ⟨by show 0 + mc2 ≤ mc2 + kc2; omega, by show 0 + ms2 ≤ ms2 + ks2; omega⟩
  intro T hT X
  rcases hr T hT X with ⟨v, st₀, t, T', L1, h0, X', hL1, e1, e2, ⟨⟨rv, v', h', ws2, tys2, hv, hov, hq, hHR2, hpre, hP2, hK2, hD2⟩, hF2⟩, stp⟩ | ⟨q9, st₀, t, T', L1, E, ce, h0, X', hL1, e1, e2, ⟨⟨ws2, tys2, hq, hHR2, hpre, hP2, hK2, hD2⟩, hF2⟩, hce, hcv, hcls, stp⟩
  · have hv : v = v' := by cases hv; rfl
    subst hv
    have hS' := tx_keep hw' hAA h0 e1 hL1 hF2
    have hA : s.vm.Alike t.vm := by rw [← e2]; exact X'.warmed.alike
    have hs3 : tsr (ws2.map Prod.fst) (rv.toList ++ stR) (v.toList ++ rest) := by
      refine tsr_join ?_ (tsr_mono hpre hs2)
      match rv, v, hov with
      | none, none, _ => rfl
      | some a, some b, hab => exact ⟨b, [], rfl, hab, rfl⟩
    obtain ⟨t2, a1, b1⟩ := kk rv h' hq p e _ s m av.toArray below meth c (va_A ws s.heap.size) s.heap _ hTF T'.heap (locs' ++ L1) (0 + mc2) (0 + ms2) ls' (v.toList ++ rest) ws2 tys2 ⟨hHR2, by rw [e1]; exact hP2, hD2.weaken (fun _ q _ hq => tx_free hw' hAA _ hq), va_K.moved hA.symm hK2, hS'⟩ (tLc_mono hpre hl') hs3 (by show 0 + mc2 + kc2 ≤ mc2 + kc2; omega) (by show 0 + ms2 + ks2 ≤ ms2 + ks2; omega)
      (fun a1 a2 a3 a4 a5 a6 a7 a8 a9 b1 b2 b3 q1 q2 q3 q4 q5 q6 q7 => fin a1 a2 a3 a4 a5 a6 a7 a8 a9 b1 b2 b3 q1 q2 q4 (hp.tr (hpre.tr q5)) (by omega) (by omega)) T' rfl X'
    exact ⟨t2, stp t2 a1, b1⟩
  · have hS' := tx_keep hw' hAA h0 e1 hL1 hF2
    have hA : s.vm.Alike t.vm := by rw [← e2]; exact X'.warmed.alike
    have hw3 : tWd D (va_A ws s.heap.size) s.heap s h' ws2 tys2 T'.heap (locs' ++ L1) := ⟨hHR2, by rw [e1]; exact hP2, hD2.weaken (fun _ q _ hq => tx_free hw' hAA _ hq), va_K.moved hA.symm hK2, hS'⟩
    obtain ⟨pre, x9, suf, ht1, ht2, ht3, ht4, ht5, ht6, ht7⟩ := kx E hq
    have hcast : (Cond.castable E E).before av.toArray s = true := by
      rcases ht6 with rfl | rfl
      · exact va_Nw.use rfl hXw.1
      · exact va_Nw.use rfl hXw.2.1
    have hW : W p l e (headSpec (tWSH y b n r hh) (tRm F L (mc2 + kc2) (ms2 + ks2))).room s m av.toArray below meth c T'.heap (locs' ++ L1) (0 + mc2) (0 + ms2) (vx_MQ below (tQc D ws s.heap.size Qr) (fun _ _ _ => False) av.toArray s (mc2 + kc2) (ms2 + ks2) (va_A ws s.heap.size)) (F0 m x9.handlerPc ls' [.ref q9]) := by
      rcases ht7 with ⟨i, d, hi9, k9⟩ | ⟨i, d, hi9, k9⟩
      · refine lv_astore hTF.1 hTF.2.1 d hl1 hi9 rfl (fun ls9 hl9 => ?_)
        exact k9 p e _ s m av.toArray below meth c (va_A ws s.heap.size) s.heap _ hTF T'.heap (locs' ++ L1) (0 + mc2) (0 + ms2) ls9 [] ws2 tys2 hw3 ⟨_, hl9, fun q hq => nomatch hq⟩ rfl (by show 0 + mc2 + kc2 ≤ mc2 + kc2; omega) (by show 0 + ms2 + ks2 ≤ ms2 + ks2; omega)
          (fun a1 a2 a3 a4 a5 a6 a7 a8 a9 b1 b2 b3 q1 q2 q3 q4 q5 q6 q7 => fin a1 a2 a3 a4 a5 a6 a7 a8 a9 b1 b2 b3 q1 q2 q4 (hp.tr (hpre.tr q5)) (by omega) (by omega))
      · refine lv_astore_n hTF.1 hTF.2.1 d rfl hl1 hi9 rfl (fun ls9 hl9 => ?_)
        exact k9 p e _ s m av.toArray below meth c (va_A ws s.heap.size) s.heap _ hTF T'.heap (locs' ++ L1) (0 + mc2) (0 + ms2) ls9 [] ws2 tys2 hw3 ⟨_, hl9, fun q hq => nomatch hq⟩ rfl (by show 0 + mc2 + kc2 ≤ mc2 + kc2; omega) (by show 0 + ms2 + ks2 ≤ ms2 + ks2; omega)
          (fun a1 a2 a3 a4 a5 a6 a7 a8 a9 b1 b2 b3 q1 q2 q3 q4 q5 q6 q7 => fin a1 a2 a3 a4 a5 a6 a7 a8 a9 b1 b2 b3 q1 q2 q4 (hp.tr (hpre.tr q5)) (by omega) (by omega))
    obtain ⟨t2, a1, b1⟩ := vx_catch (pc := pc') (ls := ls') (rest := rest) (own := RL) (name := E) (E := E) hown pre x9 suf (htab.trans ht1) (fun z hz => Or.inr ⟨(ht2 z hz).1, cIO, hgd _ (ht2 z hz).2.1, by rw [(ht2 z hz).2.2]; exact hXw.2.2.1⟩) ht3 ht4 (hgd _ ht5) hcast (by rw [e1]; exact hce) hcv hcls hW T' rfl X'
    exact ⟨t2, stp.trans a1, b1⟩
end THL
section TLG
variable {l : Launch} {D : va_G} {M : tM} {Q : Nat → tL → List tV → List tC → Prop} {kc ks pc : Nat} {loc : tL} {st : List tV} {h : List tC}
theorem t_set_same {α : Type} {xs : List α} {k : Nat} {x : α} (h : xs[k]? = some x) : xs.set k x = xs := by
  apply List.ext_getElem?
  intro j
  rw [List.getElem?_set]
  split
  · rename_i e
    subst e
    rw [if_pos (List.getElem?_eq_some_iff.mp h).1, h]
  · rfl
theorem tlong {ws : va_W} {tys : List (ClassId × FieldType)} (hr : tHR h ws tys) {a : Nat} {xs : List Int32} (ha : h[a]? = some (.inl (9, xs))) {w : Value} (hv : tvr (ws.map Prod.fst) (.inr (some a)) w) : ∃ (q : Nat) (cA : ClassId) (f : Nat → Int64) (t0 : Nat), w = .ref q ∧ ws[a]? = some (q, .inl (cA, xs.length, .inr (.inl f))) ∧ (∀ (j : Nat) (x : Int32), xs[j]? = some x → f j = x.toInt64) ∧ tys[t0]? = some (cA, .long) := by
  obtain ⟨q, e, h1, h2⟩ := tvr_ref hv
  obtain ⟨q', e', h3, cA, t0, hd⟩ := hr.2 _ _ ha
  obtain ⟨f, h4, h5, h6⟩ := hd.elim (fun x => absurd rfl x.1) (fun z => z.2)
  rw [h1] at h3
  cases h3
  exact ⟨q, cA, f, t0, h2, by rw [h1, h4], h5, h6⟩
theorem t_updL {xs : List Int32} {f : Nat → Int64} (hf : ∀ (j : Nat) (x : Int32), xs[j]? = some x → f j = x.toInt64) (n : Nat) (y : Int32) : ∀ (j : Nat) (x : Int32), (xs.set n y)[j]? = some x → vp_updL f n y.toInt64 j = x.toInt64 := by
  intro j x hj
  rw [List.getElem?_set] at hj
  unfold vp_updL
  by_cases e : n = j
  · subst e
    rw [if_pos rfl] at hj
    split at hj
    · cases hj
      simp
    · cases hj
  · rw [if_neg e] at hj
    have e' : ¬ j = n := fun z => e z.symm
    simp [e']
    exact hf j x hj
theorem t_last {y : Int32} {i : Int32} {a : Nat} {xs : List Int32} (hd : decode M.2.1 pc = .ok (.lastore, 1)) (ha : h[a]? = some (.inl (9, xs))) (h0 : ¬ i < 0) (hx : i.toNatClampNeg < xs.length) (kk : TT l D M Q kc ks (pc + 1) loc st (h.set a (.inl (9, xs.set i.toNatClampNeg y))))
    {p : Program} {e : Env} {R : Room} {s : State} {m : MethodId} {args : Array Value} {below : List Frame} {meth : Method} {c : Code} {A : Nat → Prop} {H0 : Heap} {QQ : State → Prop} (F : tFx p l R s m args meth c A H0 M) {H : Heap} {locs : List Loc} {cells slots : Nat} {ls : Array Slot} {w2 : Value} {sv : List Value} {ws : va_W} {tys : List (ClassId × FieldType)} (hw : tWd D A H0 s h ws tys H locs) (hl : tLc (ws.map Prod.fst) loc M.2.2.1 ls) (r2 : tvr (ws.map Prod.fst) (.inr (some a)) w2) (hs : tsr (ws.map Prod.fst) st sv) (hc : cells + kc ≤ R.cells) (hsl : slots + ks ≤ R.slots)
    (K : ∀ (pc' : Nat) (loc' : tL) (st' : List tV) (h' : List tC) (H' : Heap) (locs' : List Loc) (cells' slots' : Nat) (ls' : Array Slot) (sv' : List Value) (ws' : va_W) (tys' : List (ClassId × FieldType)), Q pc' loc' st' h' → tWd D A H0 s h' ws' tys' H' locs' → tLc (ws'.map Prod.fst) loc' M.2.2.1 ls' → tsr (ws'.map Prod.fst) st' sv' → tPre (ws.map Prod.fst) (ws'.map Prod.fst) → cells' ≤ cells + kc → slots' ≤ slots + ks →
      W p l e R s m args below meth c H' locs' cells' slots' QQ (F0 m pc' ls' sv')) : W p l e R s m args below meth c H locs cells slots QQ (F0 m pc ls (.long y.toInt64 :: .int i :: w2 :: sv)) := by
  obtain ⟨q, cA, f, t0, h1, h2, h3, h4⟩ := tlong hw.1 ha r2
  subst h1
  refine va_last F.1 F.2.1 hw.2.2.2.1 hw.2.1 hw.2.2.1 hw.2.2.2.2 a t0 h2 h4 (t_in h0 hx) hd ?_
  intro H1 locs1 hP hD hS
  have hm := tfst_set (e' := .inl (cA, xs.length, .inr (.inl (vp_updL f i.toNatClampNeg y.toInt64)))) h2
  have hw2 := hw.put (x := .inl (9, xs.set i.toNatClampNeg y)) h2 ⟨cA, t0, Or.inr ⟨rfl, _, by rw [List.length_set], t_updL h3 _ _, h4⟩⟩ hP hD hS
  exact kk p e R s m args below meth c A H0 QQ F H1 locs1 cells slots ls _ _ tys hw2 (by rw [hm]; exact hl) (by rw [hm]; exact hs) hc hsl (by rw [hm]; exact K)
theorem tt_i2lst {a : Nat} {xs : List Int32} {i x : Int32} (hd1 : decode M.2.1 pc = .ok (.i2l, 1)) (hd2 : decode M.2.1 (pc + 1) = .ok (.lastore, 1)) (ha : h[a]? = some (.inl (9, xs))) (h0 : ¬ i < 0) (hx : i.toNatClampNeg < xs.length) (kk : TT l D M Q kc ks (pc + 1 + 1) loc st (h.set a (.inl (9, xs.set i.toNatClampNeg x)))) : TT l D M Q kc ks pc loc (.inl x :: .inl i :: .inr (some a) :: st) h := by
  intro p e R s m args below meth c A H0 QQ F H locs cells slots ls sv ws tys hw hl hs hc hsl K
  obtain ⟨w0, s0, e0, r0, w1, s1, e1, r1, w2, s2, e2, r2, hs⟩ := hs
  have r0 : w0 = .int x := r0
  have r1 : w1 = .int i := r1
  subst e0; subst e1; subst e2; subst r1; subst r0
  exact lv_i2l F.1 F.2.1 hd1 rfl (t_last hd2 ha h0 hx kk F hw hl r2 hs hc hsl K)
theorem tt_lcst {a lp : Nat} {xs : List Int32} {i : Int32} {n : Fin 2} (hd1 : decode M.2.1 pc = .ok (.lconst n, 1)) (hg : pc + 1 = lp ∨ ∃ off : Int, decode M.2.1 (pc + 1) = .ok (.goto off, 3) ∧ ((pc + 1 : Nat) : Int) + off = (lp : Int)) (hd2 : decode M.2.1 lp = .ok (.lastore, 1)) (ha : h[a]? = some (.inl (9, xs))) (h0 : ¬ i < 0) (hx : i.toNatClampNeg < xs.length) (kk : ∀ y : Int32, TT l D M Q kc ks (lp + 1) loc st (h.set a (.inl (9, xs.set i.toNatClampNeg y)))) : TT l D M Q kc ks pc loc (.inl i :: .inr (some a) :: st) h := by
  intro p e R s m args below meth c A H0 QQ F H locs cells slots ls sv ws tys hw hl hs hc hsl K
  obtain ⟨w1, s1, e1, r1, w2, s2, e2, r2, hs⟩ := hs
  have r1 : w1 = .int i := r1
  subst e1; subst e2; subst r1
  have ey : ∃ y : Int32, Int64.ofNat (n : Nat) = y.toInt64 := by
    match n with
    | 0 => exact ⟨0, by decide⟩
    | 1 => exact ⟨1, by decide⟩
  obtain ⟨y, ey⟩ := ey
  refine lv_lconst F.1 F.2.1 hd1 ey ?_
  rcases hg with rfl | ⟨off, hg1, hg2⟩
  · exact t_last hd2 ha h0 hx (kk y) F hw hl r2 hs hc hsl K
  · exact lv_goto F.1 F.2.1 hg1 hg2 (t_last hd2 ha h0 hx (kk y) F hw hl r2 hs hc hsl K)
end TLG
