/-! METHODS THAT THROW: the words of a throw, the contract TXc, how it is got out of TT. -/
def cIO : String := "java/lang/IndexOutOfBoundsException"
def cIA : String := "java/lang/IllegalArgumentException"
def nmX : List String := ["java/lang/RuntimeException", "java/lang/Exception"]
def tDc : List MethodName := [⟨"java/lang/RuntimeException", "<init>", "(Ljava/lang/String;)V"⟩, ⟨"java/lang/Exception", "<init>", "(Ljava/lang/String;)V"⟩, ⟨"java/lang/Throwable", "<init>", "(Ljava/lang/String;)V"⟩]
set_option maxRecDepth 20000 in
theorem at_IOg : ∀ w ∈ (vx_atS RX6 69 cIO nmX).filter goodWord, w ∈ lw_good := by decide +kernel
set_option maxRecDepth 20000 in
theorem at_IOn : ∀ w ∈ (vx_atS RX6 69 cIO nmX).filter (fun w => !goodWord w), w ∈ Cond.castable cIO cIO :: tDc.map Cond.declares := by decide +kernel
set_option maxRecDepth 20000 in
theorem ot_IO : ∀ w ∈ Cond.classLink RX6 65 cIO :: Cond.initialized cIO :: vx_atS RX6 69 cIO nmX, vx_ot w = true := by decide +kernel
set_option maxRecDepth 20000 in
theorem at_IAg : ∀ w ∈ (vx_atS RX6 80 cIA nmX).filter goodWord, w ∈ lw_good := by decide +kernel
set_option maxRecDepth 20000 in
theorem at_IAn : ∀ w ∈ (vx_atS RX6 80 cIA nmX).filter (fun w => !goodWord w), w ∈ Cond.castable cIA cIA :: tDc.map Cond.declares := by decide +kernel
set_option maxRecDepth 20000 in
theorem ot_IA : ∀ w ∈ Cond.classLink RX6 76 cIA :: Cond.initialized cIA :: vx_atS RX6 80 cIA nmX, vx_ot w = true := by decide +kernel
set_option maxRecDepth 20000 in
theorem kl_IO : Cond.classLink RX6 65 cIO ∈ lw_good := lw_good_of 377 (by decide +kernel) (by decide +kernel)
set_option maxRecDepth 20000 in
theorem ki_IO : Cond.initialized cIO ∈ lw_good := lw_good_of 73 (by decide +kernel) (by decide +kernel)
set_option maxRecDepth 20000 in
theorem kl_IA : Cond.classLink RX6 76 cIA ∈ lw_good := lw_good_of 444 (by decide +kernel) (by decide +kernel)
set_option maxRecDepth 20000 in
theorem ki_IA : Cond.initialized cIA ∈ lw_good := lw_good_of 74 (by decide +kernel) (by decide +kernel)
theorem fit_IO : Bundle.fit cIO = true := by decide +kernel
theorem fit_IA : Bundle.fit cIA = true := by decide +kernel
theorem fit_nm : ∀ n ∈ nmX, Bundle.fit n = true := by decide +kernel
def tXl : List (Nat × String) := [(67, "no such link or router"), (78, "the link is laid, its ends are the same, or its cost is not 1 .. 60"), (90, "no such link"), (95, "the link is not laid, or so already"), (106, "no such prefix or router"), (108, "the prefix is attached so already"), (120, "no such link or end"), (125, "n is not 0 .. 500"), (144, "no such router or prefix"), (146, "TTL is not 0 .. 60, or there are 64 packets")]
def tXw (U : State) : Prop := va_Nw (.castable cIO cIO) U ∧ va_Nw (.castable cIA cIA) U ∧ va_Nc cIA cIO U ∧ (∀ q ∈ tXl, ∃ sa : Nat, vk_R RX6 q.1 q.2 sa U) ∧ ∀ y ∈ tDc, va_Nw (.declares y) U
def tXh (A : Nat → Prop) (U : State) (H : Heap) : Prop := vx_Zq Bundle.tN "UNASSIGNED_STACK" Bundle.steD A U H ∧ vx_Zq Bundle.tN "SUPPRESSED_SENTINEL" Bundle.listD A U H
theorem tXw_warm {s U : State} (hW : s.WarmedH U.vm) (h : tXw s) : tXw U := ⟨va_Nw.warmC hW h.1, va_Nw.warmC hW h.2.1, va_Nc.moved hW.alike h.2.2.1, fun q hq => by obtain ⟨sa, h1⟩ := h.2.2.2.1 q hq; exact ⟨sa, vk_R.warm hW h1⟩, fun y hy => va_Nw.warmD hW (h.2.2.2.2 y hy)⟩
theorem tXw_same {s U : State} (hv : s.vm = U.vm) (h : tXw s) : tXw U := by
  have hA : s.vm.Alike U.vm := by rw [hv]; exact Vm.Alike.refl _
  exact ⟨va_Nw.same rfl hv h.1, va_Nw.same rfl hv h.2.1, va_Nc.moved hA h.2.2.1, fun q hq => by obtain ⟨sa, h1⟩ := h.2.2.2.1 q hq; exact ⟨sa, vk_R.same hv.symm h1⟩, fun y hy => va_Nw.same rfl hv (h.2.2.2.2 y hy)⟩
def tPcX (D : va_G) (ws : va_W) (tys : List (ClassId × FieldType)) (sz : Nat) (av : List Value) : Array Value → State → Prop := fun a U => tPc D ws tys sz av a U ∧ tXw U ∧ tXh (va_A ws sz) U U.heap
def tQxc (D : va_G) (ws : va_W) (sz : Nat) (h : List tC) (Qx : String → Prop) : String → State → State → Prop := fun E st t =>
  (∃ (ws' : va_W) (tys' : List (ClassId × FieldType)), Qx E ∧ tHR h ws' tys' ∧ tPre (ws.map Prod.fst) (ws'.map Prod.fst) ∧ va_P D vwCl ws' t.heap ∧ va_K D vwCl tys' t ∧ va_D (va_A ws sz) ws') ∧ va_F (va_A ws sz) st t
def TXc (l : Launch) (D : va_G) (y : MethodName) (b : ByteArray) (n : Nat) (r : Option FieldType) (F L mc ms : Nat) (as : List tV) (h : List tC) (Qc : Option tV → List tC → Prop) (Qx : String → Prop) : Prop :=
  ∀ (ws : va_W) (tys : List (ClassId × FieldType)) (sz : Nat) (av : List Value), tHR h ws tys → tsr (ws.map Prod.fst) as av → vx_Met l y (tWS y b n r) (tRm F L mc ms) (tPcX D ws tys sz av) (tQc D ws sz Qc) (tQxc D ws sz h Qx) mc ms (va_A ws sz)
/-- a throw begins at pc -/
def tTh (b : ByteArray) (Qx : String → Prop) (pc : Nat) : Prop := ∃ (i : Nat) (tx : String), (i, tx) ∈ tXl ∧ decode b (pc + 3) = .ok (.dup, 1) ∧ decode b (pc + 4) = .ok (.ldc i, 2) ∧ decode b (pc + 9) = .ok (.athrow, 1) ∧ ((decode b pc = .ok (.new 65, 3) ∧ decode b (pc + 6) = .ok (.invokespecial 69, 3) ∧ Qx cIO) ∨ (decode b pc = .ok (.new 76, 3) ∧ decode b (pc + 6) = .ok (.invokespecial 80, 3) ∧ Qx cIA))
section THR
variable {l : Launch} {D : va_G}
theorem tPcX_blind {ws : va_W} {tys : List (ClassId × FieldType)} {sz : Nat} {av : List Value} : FrameBlind (tPcX D ws tys sz av) := by
  intro a U g mk q
  obtain ⟨q0, q1, q2, q3⟩ := q
  have hA : U.vm.Alike (U.calling g mk a).vm := Vm.Alike.refl U.vm
  exact ⟨tPc_blind a U g mk q0, tXw_same rfl q1, vx_Zq.moved hA q2, vx_Zq.moved hA q3⟩
theorem tPcX_at {s : State} {H : Heap} {ws : va_W} {tys : List (ClassId × FieldType)} {av : List Value} {A : Nat → Prop} {locs : List Loc} (hP : va_P D vwCl ws H) (hK : va_K D vwCl tys s) (hD : va_D A ws) (hE : tEx s) (hX : tXw s) {H0 : Heap} (hH : tXh A s H0) (hS : va_S A H0 H locs) (hA : ∀ q, H0.size ≤ q → A q) : ∀ U : State, U.heap = H → s.WarmedH U.vm → tPcX D ws tys H.size av av.toArray U := by
  intro U hU hW
  have hF : ∀ q, va_A ws H.size q → A q := by
    intro q hq
    rcases hq with ⟨k, e, hk⟩ | hq
    · exact hD.2 k _ hk
    · exact hA q (Nat.le_trans hS.1 hq)
  refine ⟨tPc_at hP hK hD hE U hU hW, tXw_warm hW hX, ?_, ?_⟩
  · rw [hU]; exact vx_Zq.moved hW.alike ((hH.1.kept hS.2.1).narrow hF)
  · rw [hU]; exact vx_Zq.moved hW.alike ((hH.2.kept hS.2.1).narrow hF)
theorem txc_of {y : MethodName} {b : ByteArray} {n : Nat} {r : Option FieldType} {F L F0' L0' mc ms mc0 ms0 : Nat} {as : List tV} {h : List tC} {Qr : Option tV → List tC → Prop} {Qx : String → Prop} (hl0 : l.stackTraces = false) (hy : plainName y.cls = true) (hcl : y.cls = RX6) (hen : as.length ≤ n) (hFL : F0' ≤ F ∧ L0' ≤ L) (h6 : 6 ≤ F ∧ 82 ≤ L) (hmc : mc0 + 1 ≤ mc) (hms : ms0 + 6 ≤ ms)
    (k : TT l D (RX6, b, n, F0', L0', false) (fun pc' loc' st' h' => tRt b r Qr pc' loc' st' h' ∨ (st' = [] ∧ h' = h ∧ tTh b Qx pc')) mc0 ms0 0 (tEn 0 as) [] h) : TXc l D y b n r F L mc ms as h Qr Qx := by
  intro ws tys sz av hHR hsr
  refine vx_ofW (cc := b) (maxL := n) (ret := r) hy rfl ?_
  intro p e s m args below meth c s₁ B hml hno hv
  obtain ⟨⟨rfl, hsz, hP, hK, hD0, hE⟩, hXw, hXU, hXN⟩ := hv
  have hts := atoms_spec (ws := tWS y b n r) B.pre
  have hown : s.vm.findClass RX6 = some m.cls := by rw [← hcl]; exact findClass_of_methodNamed B.named
  have hlocks := B.notSynchronized
  subst hsz
  have hD := hD0.self (sz := s.heap.size)
  have hlen := tsl_len hsr
  have hl := lv_entry av (n := n) (by rw [hlen]; exact hen)
  rw [lg_entry_eq]
  have hgd : ∀ w ∈ lw_good, w.before av.toArray s = true := fun w hw => hts w (List.mem_cons_of_mem _ hw)
  refine k p e _ s m av.toArray below meth c (va_A ws s.heap.size) s.heap (vx_MQ below (tQc D ws s.heap.size Qr) (tQxc D ws s.heap.size h Qx) av.toArray s mc ms (va_A ws s.heap.size)) ⟨B.exec, B.bytes, hml, hown, hgd, fun q hq => Or.inr hq, hFL.1, hFL.2, (fun z => by cases z), hE⟩ s.heap [] 0 0 _ [] ws tys ⟨hHR, hP, hD, hK, va_S.rf⟩ ⟨_, hl, tEn_ok 0 hsr⟩ rfl (by rw [Nat.zero_add]; exact Nat.le_trans (Nat.le_succ _) hmc) (by rw [Nat.zero_add]; exact Nat.le_trans (Nat.le_add_right _ 6) hms) ?_
  intro pc' loc' st' h' H' locs' cells' slots' ls' sv' ws' tys' hq hw' hl' hs' hp hc' hsl'
  rw [Nat.zero_add] at hc' hsl'
  have hS2 := hw'.2.2.2.2.2.2
  rcases hq with hq | ⟨rfl, rfl, i, tx, hi, d3, d4, d9, hq⟩
  · refine vx_ret (W.widen (Nat.le_trans hc' (Nat.le_trans (Nat.le_succ _) hmc)) (Nat.le_trans hsl' (Nat.le_trans (Nat.le_add_right _ 6) hms)) ?_)
    have fin : ∀ (rv : Option tV) (v : Option Value), tOv (ws'.map Prod.fst) rv v → Qr rv h' → ∀ t : State, t.heap = H' → s.WarmedH t.vm → tQc D ws s.heap.size Qr av.toArray s (.returned v) t := fun rv v hv hQ t ht hW =>
      ⟨⟨rv, v, h', ws', tys', rfl, hv, hQ, hw'.1, hp, by rw [ht]; exact hw'.2.1, va_K.moved hW.alike hw'.2.2.2.1, hw'.2.2.1⟩, hw'.2.2.2.2.F ht⟩
    rcases hq with ⟨d, rfl, rfl, hQ⟩ | ⟨x, d, rfl, hr, hQ⟩ | ⟨v, C, d, rfl, rfl, hQ⟩
    · have e1 : sv' = [] := hs'
      subst e1
      exact W.vret B.exec B.bytes B.returns (fin none none trivial hQ) hS2 d
    · obtain ⟨w, s1, e1, r1, e2⟩ := hs'
      have r1' : w = .int x := r1
      have e2 : s1 = [] := e2
      subst e2; subst r1'; subst e1
      rcases hr with rfl | ⟨rfl, hx⟩
      · exact W.iret B.exec B.bytes B.returns (fin (some (.inl x)) (some (.int x)) rfl hQ) hS2 d
      · exact W.zret B.exec B.bytes B.returns (by rcases hx with rfl | rfl <;> rfl) (fin (some (.inl x)) (some (.int x)) rfl hQ) hS2 d
    · obtain ⟨w, s1, e1, r1, e2⟩ := hs'
      have e2 : s1 = [] := e2
      subst e2; subst e1
      refine W.aret B.exec B.bytes B.returns (Or.inl ⟨C, rfl⟩) ?_ (fin (some (.inr v)) (some w) r1 hQ) hS2 d
      cases v with
      | none => exact Or.inl r1
      | some q => obtain ⟨a, _, h⟩ := r1; exact Or.inr ⟨a, h⟩
  · have e1 : sv' = [] := hs'
    subst e1
    obtain ⟨sa, hsa⟩ := hXw.2.2.2.1 _ hi
    obtain ⟨lv, hl1, -⟩ := hl'
    have hdc : ∀ w ∈ tDc.map Cond.declares, w.before av.toArray s = true := by
      intro w hw
      obtain ⟨y, hy, rfl⟩ := List.mem_map.mp hw
      exact va_Nw.use rfl (hXw.2.2.2.2 y hy)
    have hxx : ∀ E : String, Qx E → ∀ t : State, s.vm.Alike t.vm → H'.size ≤ t.heap.size → (∀ q : Nat, q < H'.size → t.heap[q]? = H'[q]?) → tQxc D ws s.heap.size h' Qx E s t := by
      intro E hE t hA hz hk
      refine ⟨⟨ws', tys', hE, hw'.1, hp, hw'.2.1.kept (fun k q hq => hk _ (vx_lt hw'.2.1 hq)), va_K.moved hA hw'.2.2.2.1, hw'.2.2.1⟩, Nat.le_trans hw'.2.2.2.2.1 hz, fun q h1 h2 => ?_⟩
      rw [hk q (Nat.lt_of_lt_of_le h1 hw'.2.2.2.2.1)]
      exact hw'.2.2.2.2.2.1 q h1 h2
    rcases hq with ⟨d0, d6, hQ⟩ | ⟨d0, d6, hQ⟩
    · exact vx_throwS (names := nmX) (A := va_A ws s.heap.size) B.exec B.bytes hl0 hown fit_IO fit_nm (hgd _ kl_IO) (hgd _ ki_IO) hsa (vx_hat (fun w hw => hgd _ (at_IOg w hw)) at_IOn (vx_c (va_Nw.use rfl hXw.1) hdc)) ot_IO hXU hXN hw'.2.2.2.2 (hl1.1.trans hml.symm) d0 d3 d4 d6 d9 (fun x hx => (hno x hx).elim) (Nat.lt_of_lt_of_le (by decide) h6.1) (Nat.le_trans (by decide) h6.2) (Nat.le_trans (Nat.succ_le_succ hc') hmc) (Nat.le_trans (Nat.add_le_add_right hsl' 6) hms) hlocks (hxx _ hQ) hS2 (Nat.le_trans (Nat.succ_le_succ hc') hmc) (Nat.le_trans (Nat.add_le_add_right hsl' 6) hms)
    · exact vx_throwS (names := nmX) (A := va_A ws s.heap.size) B.exec B.bytes hl0 hown fit_IA fit_nm (hgd _ kl_IA) (hgd _ ki_IA) hsa (vx_hat (fun w hw => hgd _ (at_IAg w hw)) at_IAn (vx_c (va_Nw.use rfl hXw.2.1) hdc)) ot_IA hXU hXN hw'.2.2.2.2 (hl1.1.trans hml.symm) d0 d3 d4 d6 d9 (fun x hx => (hno x hx).elim) (Nat.lt_of_lt_of_le (by decide) h6.1) (Nat.le_trans (by decide) h6.2) (Nat.le_trans (Nat.succ_le_succ hc') hmc) (Nat.le_trans (Nat.add_le_add_right hsl' 6) hms) hlocks (hxx _ hQ) hS2 (Nat.le_trans (Nat.succ_le_succ hc') hmc) (Nat.le_trans (Nat.add_le_add_right hsl' 6) hms)
end THR
