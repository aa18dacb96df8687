section TTC
variable {l : Launch} {D : va_G} {M : tM} {Q : Nat → tL → List tV → List tC → Prop} {kc ks pc : Nat} {loc : tL} {st : List tV} {h : List tC}
theorem tPre_add (ws : va_W) (x : Nat × va_E) : tPre (ws.map Prod.fst) ((ws ++ [x]).map Prod.fst) := ⟨[x.1], by simp⟩
theorem tlast (ws : va_W) (x : Nat × va_E) {h : List tC} (hn : ws.length = h.length) : tvr ((ws ++ [x]).map Prod.fst) (.inr (some h.length)) (.ref x.1) := ⟨x.1, by simp [← hn], rfl⟩
theorem tt_new {idx ci N : Nat} {C : String} {T : u_T} {tfs : List tV} {fsV : List Value} (hd : decode M.2.1 pc = .ok (.new idx, 3)) (hcl : tCl ci C T N) (h1 : Cond.classLink M.1 idx C ∈ lw_good) (h2 : Cond.instantiable C N ∈ lw_good) (h3 : Cond.initialized C ∈ lw_good) (hfs : ∀ j, j < N → ∀ ty, parseFieldDescriptor (T j).2.2.1 = some ty → defaultValue ty = vp_V fsV j) (hz : ∀ as, tsr as tfs fsV)
    (kk : TT l D M Q kc ks (pc + 3) loc (.inr (some h.length) :: st) (h ++ [.inr (.inr (ci, tfs))])) : TT l D M Q (kc + 1) (ks + N) pc loc st h := by
  intro p e R s m args below meth c A H0 QQ F H locs cells slots ls sv ws tys hw hl hs hc hsl K
  obtain ⟨hC, hin, ⟨ty0, hty⟩, hnm⟩ := hcl
  refine va_new (ci := ci) (fs := fsV) F.1 F.2.1 F.2.2.2.2.1 hin ty0 hty F.2.2.2.1 (F.2.2.2.2.1 _ h1) (F.2.2.2.2.1 _ h2) (F.2.2.2.2.1 _ h3) hw.2.2.2.1 hw.2.1 hw.2.2.1 hw.2.2.2.2 F.2.2.2.2.2.1 hC (fun j hj => hfs j hj _ (hty j hj)) (by omega) (by omega) hd ?_
  intro q H1 hP hD hS
  have hp := tPre_add ws (q, .inr (ci, fsV))
  exact kk p e R s m args below meth c A H0 QQ F H1 locs (cells + 1) (slots + N) ls _ _ tys ⟨hw.1.add (c := .inr (.inr (ci, tfs))) ⟨[], by simp⟩ ⟨fsV, rfl, hz _⟩, hP, hD, hw.2.2.2.1, hS⟩ (tLc_mono hp hl) ⟨_, _, rfl, tlast ws (q, .inr (ci, fsV)) hw.1.1, tsr_mono hp hs⟩ (by omega) (by omega)
    (fun a1 a2 a3 a4 a5 a6 a7 a8 a9 b1 b2 b3 q1 q2 q3 q4 q5 q6 q7 => K a1 a2 a3 a4 a5 a6 a7 a8 a9 b1 b2 b3 q1 q2 q3 q4 (hp.tr q5) (by omega) (by omega))
theorem t_rep {n j : Nat} {α : Type} {y x : α} (h : (List.replicate n y)[j]? = some x) : y = x := by
  rw [List.getElem?_replicate] at h
  split at h
  · exact Option.some.inj h
  · cases h
theorem tt_newa {at0 : ArrayType} {t : Nat} {n : Int32} (hd : decode M.2.1 pc = .ok (.newarray at0, 2)) (hty : newarray.typeOf at0 = tAty t) (h01 : t = 0 ∨ t = 1) (h1 : Cond.arrayClass (newarray.typeOf at0) ∈ lw_good) (hn : ¬ n < 0) (hb : n.toNatClampNeg ≤ 100000)
    (kk : TT l D M Q kc ks (pc + 2) loc (.inr (some h.length) :: st) (h ++ [.inl (t, List.replicate n.toNatClampNeg 0)])) : TT l D M Q (kc + 1) (ks + n.toNatClampNeg) pc loc (.inl n :: st) h := by
  intro p e R s m args below meth c A H0 QQ F H locs cells slots ls sv ws tys hw hl hs hc hsl K
  obtain ⟨w1, s1, e1, r1, hs⟩ := hs
  have r1 : w1 = .int n := r1
  subst e1; subst r1
  refine va_newa (a0 := (n.toNatClampNeg, .inl (fun _ => 0))) (N' := n.toNatClampNeg) F.1 F.2.1 (F.2.2.2.2.1 _ h1) hty hw.2.2.2.1 hw.2.1 hw.2.2.1 hw.2.2.2.2 F.2.2.2.2.2.1 (fun cA => by rcases h01 with rfl | rfl <;> rfl) hn rfl (by rcases h01 with rfl | rfl <;> simp [tAty, componentBytes] <;> omega) (by omega) (by omega) hd ?_
  intro q cA H1 hK hP hD hS
  have hp := tPre_add ws (q, .inl (cA, n.toNatClampNeg, .inl (fun _ => 0)))
  exact kk p e R s m args below meth c A H0 QQ F H1 locs (cells + 1) (slots + n.toNatClampNeg) ls _ _ _ ⟨hw.1.add (c := .inl (t, List.replicate n.toNatClampNeg 0)) ⟨_, rfl⟩ ⟨cA, tys.length, Or.inl ⟨by omega, _, by rw [List.length_replicate], fun j x hj => t_rep hj, by simp⟩⟩, hP, hD, hK, hS⟩ (tLc_mono hp hl) ⟨_, _, rfl, tlast ws _ hw.1.1, tsr_mono hp hs⟩ (by omega) (by omega)
    (fun a1 a2 a3 a4 a5 a6 a7 a8 a9 b1 b2 b3 q1 q2 q3 q4 q5 q6 q7 => K a1 a2 a3 a4 a5 a6 a7 a8 a9 b1 b2 b3 q1 q2 q3 q4 (hp.tr q5) (by omega) (by omega))
theorem tt_newq {idx t : Nat} {C : String} {n : Int32} (hd : decode M.2.1 pc = .ok (.anewarray idx, 3)) (hty : tAty t = .object C) (h1 : Cond.classLink M.1 idx C ∈ lw_good) (ho : ∀ U, tEx U → va_AO C U) (hn : ¬ n < 0) (hb : n.toNatClampNeg ≤ 100000)
    (kk : TT l D M Q kc ks (pc + 3) loc (.inr (some h.length) :: st) (h ++ [.inr (.inl (t, List.replicate n.toNatClampNeg none))])) : TT l D M Q (kc + 1) (ks + n.toNatClampNeg) pc loc (.inl n :: st) h := by
  intro p e R s m args below meth c A H0 QQ F H locs cells slots ls sv ws tys hw hl hs hc hsl K
  obtain ⟨w1, s1, e1, r1, hs⟩ := hs
  have r1 : w1 = .int n := r1
  subst e1; subst r1
  refine va_newq (N' := n.toNatClampNeg) F.1 F.2.1 F.2.2.2.1 (F.2.2.2.2.1 _ h1) (ho _ F.2.2.2.2.2.2.2.2.2) hw.2.2.2.1 hw.2.1 hw.2.2.1 hw.2.2.2.2 F.2.2.2.2.2.1 hn rfl (by omega) (by omega) (by omega) hd ?_
  intro q cA H1 hK hP hD hS
  have hp := tPre_add ws (q, .inl (cA, n.toNatClampNeg, .inr (.inr (.inr (.inr (fun _ => none))))))
  exact kk p e R s m args below meth c A H0 QQ F H1 locs (cells + 1) (slots + n.toNatClampNeg) ls _ _ _ ⟨hw.1.add (c := .inr (.inl (t, List.replicate n.toNatClampNeg none))) ⟨_, rfl⟩ ⟨cA, fun _ => none, tys.length, by rw [List.length_replicate], fun j x hj => by rw [← t_rep hj]; rfl, by simp [hty]⟩, hP, hD, hK, hS⟩ (tLc_mono hp hl) ⟨_, _, rfl, tlast ws _ hw.1.1, tsr_mono hp hs⟩ (by omega) (by omega)
    (fun a1 a2 a3 a4 a5 a6 a7 a8 a9 b1 b2 b3 q1 q2 q3 q4 q5 q6 q7 => K a1 a2 a3 a4 a5 a6 a7 a8 a9 b1 b2 b3 q1 q2 q3 q4 (hp.tr q5) (by omega) (by omega))
-- contracts
def tOv (as : List Nat) (rv : Option tV) (v : Option Value) : Prop := match rv, v with
  | none, none => True
  | some a, some b => tvr as a b
  | _, _ => False
def tQc (D : va_G) (ws : va_W) (sz : Nat) (Q : Option tV → List tC → Prop) : Array Value → State → Outcome → State → Prop := fun _ st oc t =>
  (∃ (rv : Option tV) (v : Option Value) (h' : List tC) (ws' : va_W) (tys' : List (ClassId × FieldType)), oc = .returned v ∧ tOv (ws'.map Prod.fst) rv v ∧ Q rv h' ∧ tHR h' ws' tys' ∧ tPre (ws.map Prod.fst) (ws'.map Prod.fst) ∧ va_P D vwCl ws' t.heap ∧ va_K D vwCl tys' t ∧ va_D (va_A ws sz) ws') ∧ va_F (va_A ws sz) st t
def tPc (D : va_G) (ws : va_W) (tys : List (ClassId × FieldType)) (sz : Nat) (av : List Value) : Array Value → State → Prop := va_Pc av (fun U => U.heap.size = sz ∧ va_P D vwCl ws U.heap ∧ va_K D vwCl tys U ∧ va_D (fun _ => True) ws ∧ tEx U)
def tRm (F L mc ms : Nat) : Room := { frames := F, cells := mc, slots := ms, locals := L }
def TMc (l : Launch) (D : va_G) (y : MethodName) (b : ByteArray) (n : Nat) (r : Option FieldType) (F L mc ms : Nat) (as : List tV) (h : List tC) (Q : Option tV → List tC → Prop) : Prop :=
  ∀ (ws : va_W) (tys : List (ClassId × FieldType)) (sz : Nat) (av : List Value), tHR h ws tys → tsr (ws.map Prod.fst) as av → Met l y (tWS y b n r) (tRm F L mc ms) (tPc D ws tys sz av) (tQc D ws sz Q) mc ms (va_A ws sz)
def tRt (b : ByteArray) (r : Option FieldType) (Q : Option tV → List tC → Prop) : Nat → tL → List tV → List tC → Prop := fun pc _ st h =>
  (decode b pc = .ok (.return_, 1) ∧ r = none ∧ st = [] ∧ Q none h) ∨ (∃ x : Int32, decode b pc = .ok (.ireturn, 1) ∧ st = [.inl x] ∧ (r = some .int ∨ (r = some .boolean ∧ (x = 0 ∨ x = 1))) ∧ Q (some (.inl x)) h) ∨ (∃ (v : Option Nat) (C : String), decode b pc = .ok (.areturn, 1) ∧ st = [.inr v] ∧ r = some (.object C) ∧ Q (some (.inr v)) h)
def tEn : Nat → List tV → tL
  | _, [] => []
  | i, v :: vs => (i, v) :: tEn (i + 1) vs
theorem tEn_ok {as : List Nat} : ∀ {vs : List tV} {av : List Value} (i : Nat), tsr as vs av → ∀ q ∈ tEn i vs, ∃ w : Value, (q.1, w) ∈ lv_args i av ∧ tvr as q.2 w
  | [], _, _, _, _, hq => by cases hq
  | v :: vs, _, i, ⟨w, ws, e, h1, h2⟩, q, hq => by
    rw [e]
    have hc := tvr_cat h1
    rcases List.mem_cons.mp hq with rfl | hq
    · exact ⟨w, List.mem_cons_self, h1⟩
    · obtain ⟨w', h3, h4⟩ := tEn_ok (i + 1) h2 q hq
      refine ⟨w', List.mem_cons_of_mem _ ?_, h4⟩
      rw [if_neg (by rw [hc]; decide)]
      exact h3
theorem tsl_len {as : List Nat} : ∀ {vs : List tV} {av : List Value}, tsr as vs av → (lg_sl av).length = vs.length
  | [], _, h => by rw [h]; rfl
  | v :: vs, _, ⟨w, ws, e, h1, h2⟩ => by
    rw [e]
    have hc := tvr_cat h1
    have := tsl_len h2
    simp only [lg_sl, List.flatMap_cons, hc] at this ⊢
    simp [this]
theorem tmc_of {y : MethodName} {b : ByteArray} {n : Nat} {r : Option FieldType} {F L mc ms : Nat} {as : List tV} {Qr : Option tV → List tC → Prop} (ini : Bool) (hy : plainName y.cls = true) (hi : ini = true → y.name = "<init>") (hen : as.length ≤ n)
    (k : TT l D (y.cls, b, n, F, L, ini) (tRt b r Qr) mc ms 0 (tEn 0 as) [] h) : TMc l D y b n r F L mc ms as h Qr := by
  intro ws tys sz av hHR hsr
  refine Met.ofW (cc := b) (maxL := n) (ret := r) hy rfl ?_
  intro p e s m args below meth c s₁ B hml hv
  obtain ⟨rfl, hsz, hP, hK, hD0, hE⟩ := hv
  have hts := atoms_spec (ws := tWS y b n r) B.pre
  have hown : s.vm.findClass y.cls = some m.cls := findClass_of_methodNamed B.named
  have hlocks := B.notSynchronized
  have hin : meth.name = y.name := (name_of_methodNamed B.named B.method).1
  subst hsz
  have hD := hD0.self (sz := s.heap.size)
  have hlen := tsl_len hsr
  have hl := lv_entry av (n := n) (by rw [hlen]; exact hen)
  rw [lg_entry_eq]
  refine k p e _ s m av.toArray below meth c (va_A ws s.heap.size) s.heap (MQ below (tQc D ws s.heap.size Qr) av.toArray s mc ms (va_A ws s.heap.size)) ⟨B.exec, B.bytes, hml, hown, fun w hw => hts w (List.mem_cons_of_mem _ hw), fun q hq => Or.inr hq, Nat.le_refl F, Nat.le_refl L, fun z => by rw [hin]; exact hi z, hE⟩ s.heap [] 0 0 _ [] ws tys ⟨hHR, hP, hD, hK, va_S.rf⟩ ⟨_, hl, tEn_ok 0 hsr⟩ rfl (by rw [Nat.zero_add]; exact Nat.le_refl mc) (by rw [Nat.zero_add]; exact Nat.le_refl ms) ?_
  intro pc' loc' st' h' H' locs' cells' slots' ls' sv' ws' tys' hq hw' hl' hs' hp hc' hsl'
  rw [Nat.zero_add] at hc' hsl'
  refine W.widen hc' hsl' ?_
  have fin : ∀ (rv : Option tV) (v : Option Value), tOv (ws'.map Prod.fst) rv v → Qr rv h' → ∀ t : State, t.heap = H' → s.WarmedH t.vm → tQc D ws s.heap.size Qr av.toArray s (.returned v) t := fun rv v hv hQ t ht hW =>
    ⟨⟨rv, v, h', ws', tys', rfl, hv, hQ, hw'.1, hp, by rw [ht]; exact hw'.2.1, va_K.moved hW.alike hw'.2.2.2.1, hw'.2.2.1⟩, hw'.2.2.2.2.F ht⟩
  have hS2 := hw'.2.2.2.2.2.2
  rcases hq with ⟨d, rfl, rfl, hQ⟩ | ⟨x, d, rfl, hr, hQ⟩ | ⟨v, C, d, rfl, rfl, hQ⟩
  · have e1 : sv' = [] := hs'
    subst e1
    exact W.vret B.exec B.bytes B.returns (fin none none trivial hQ) hS2 d
  · obtain ⟨w, s1, e1, r1, e2⟩ := hs'
    have r1' : w = .int x := r1
    have e2 : s1 = [] := e2
    subst e2; subst r1'; subst e1
    rcases hr with rfl | ⟨rfl, hx⟩
    · exact W.iret B.exec B.bytes B.returns (fin (some (.inl x)) (some (.int x)) rfl hQ) hS2 d
    · exact W.zret B.exec B.bytes B.returns (by rcases hx with rfl | rfl <;> rfl) (fin (some (.inl x)) (some (.int x)) rfl hQ) hS2 d
  · obtain ⟨w, s1, e1, r1, e2⟩ := hs'
    have e2 : s1 = [] := e2
    subst e2; subst e1
    refine W.aret B.exec B.bytes B.returns (Or.inl ⟨C, rfl⟩) ?_ (fin (some (.inr v)) (some w) r1 hQ) hS2 d
    cases v with
    | none => exact Or.inl r1
    | some q => obtain ⟨a, _, h⟩ := r1; exact Or.inr ⟨a, h⟩
end TTC
