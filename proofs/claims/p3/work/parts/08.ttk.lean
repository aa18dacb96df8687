/-- as the library's row for arrays of objects, for arrays of arrays -/
theorem t_overA {args : Array Value} {first s : State} {o : Option Outcome} {idx : List Nat} {t : FieldType} (h : (Cond.arrayOver (.array t)).holds args first o s idx = true) :
    ∃ comp c k, s.vm.findClass (FieldType.array t).toString = some comp ∧ (s.vm.classes.findIdx? fun x => match x.kind with | .array component _ => component == comp | _ => false) = some c ∧ s.vm.classes[c]? = some k ∧ k.kind = .array comp (.array t) ∧
      s.vm.findClass ("[" ++ (FieldType.array t).toString) = some c := by
  simp only [Cond.holds, Cond.value, beq_iff_eq] at h
  cases hc : s.vm.findClass (FieldType.array t).toString with
  | none => simp [hc] at h
  | some comp =>
    simp only [hc, Option.bind_some, Option.bind_eq_some_iff, Option.map_eq_some_iff] at h
    obtain ⟨c, hi, k, hk, hb⟩ := h
    obtain ⟨hlt, hp, -⟩ := Array.findIdx?_eq_some_iff_getElem.mp hi
    have hkk : s.vm.classes[c] = k := (Array.getElem?_eq_some_iff.mp hk).2
    rw [hkk] at hp
    cases hkind : k.kind with
    | array component ty =>
      rw [hkind] at hb hp
      simp at hb hp
      exact ⟨comp, c, k, rfl, hi, hk, by rw [hkind, hp, hb.1], hb.2⟩
    | _ => rw [hkind] at hb; simp at hb
theorem va_AOA.moved {ty : FieldType} {u U : State} (hvm : u.vm.Alike U.vm) (h : va_AOA ty u) : va_AOA ty U := by
  obtain ⟨comp, c, k, h1, h2, h3, h4, h5⟩ := t_overA h
  obtain ⟨k', hk', he⟩ := hvm.2.2 _ _ h3
  have hi : (U.vm.classes.findIdx? fun (x : Class) => match x.kind with | .array component _ => component == comp | _ => false) = some c := by
    have e1 := va_idx_bare U.vm comp
    have e2 := va_idx_bare u.vm comp
    have e3 : U.vm.bare = u.vm.bare := by first | exact hvm.bare_eq | exact hvm.bare_eq.symm
    rw [e3] at e1
    exact (e1.symm.trans e2).trans h2
  have hkind : k'.kind = .array comp (.array ty) := by rw [he]; exact h4
  have f1 : U.vm.findClass (FieldType.array ty).toString = some comp := by rw [hvm.findClass]; exact h1
  have f2 : U.vm.findClass ("[" ++ (FieldType.array ty).toString) = some c := by rw [hvm.findClass]; exact h5
  unfold va_AOA Cond.before Cond.holds
  simp only [Cond.value]
  rw [f1, Option.bind_some]
  refine (congrArg (fun o : Option Nat => (o.bind (fun c => (U.vm.classes[c]?).map fun (k : Class) => match k.kind with | .array _ ty' => decide (ty' = FieldType.array ty) && decide (U.vm.findClass ("[" ++ (FieldType.array ty).toString) = some c) | _ => false) == some true)) hi).trans ?_
  simp [hk', hkind, f2]
section TTK
variable {l : Launch} {D : va_G} {M : tM} {Q : Nat → tL → List tV → List tC → Prop} {kc ks pc : Nat} {loc : tL} {st : List tV} {h : List tC}
theorem tEx_warm {s U : State} (hW : s.WarmedH U.vm) (h : tEx s) : tEx U := by
  obtain ⟨h1, h2, h3, h4, h5, h6, h7, h8, h9⟩ := h
  exact ⟨va_Nw.warmM hW h1, va_Nw.warmM hW h2, va_AO.moved hW.alike h3, va_AO.moved hW.alike h4, va_AO.moved hW.alike h5, va_AO.moved hW.alike h6, va_AO.moved hW.alike h7, va_AO.moved hW.alike h8, va_AOA.moved hW.alike h9⟩
theorem tEx_same {s U : State} (hv : s.vm = U.vm) (h : tEx s) : tEx U := by
  obtain ⟨h1, h2, h3, h4, h5, h6, h7, h8, h9⟩ := h
  have hA : s.vm.Alike U.vm := by rw [hv]; exact Vm.Alike.refl _
  exact ⟨va_Nw.same rfl hv h1, va_Nw.same rfl hv h2, va_AO.moved hA h3, va_AO.moved hA h4, va_AO.moved hA h5, va_AO.moved hA h6, va_AO.moved hA h7, va_AO.moved hA h8, va_AOA.moved hA h9⟩
theorem tPc_blind {ws : va_W} {tys : List (ClassId × FieldType)} {sz : Nat} {av : List Value} : FrameBlind (tPc D ws tys sz av) := by
  intro a U g mk q
  obtain ⟨q0, q1, q2, q3, q4, q5⟩ := q
  exact ⟨q0, q1, q2, va_K.moved (u := U) (U := U.calling g mk a) (Vm.Alike.refl U.vm) q3, q4, tEx_same rfl q5⟩
theorem tPc_at {s : State} {H : Heap} {ws : va_W} {tys : List (ClassId × FieldType)} {av : List Value} {A : Nat → Prop} (hP : va_P D vwCl ws H) (hK : va_K D vwCl tys s) (hD : va_D A ws) (hE : tEx s) : ∀ U : State, U.heap = H → s.WarmedH U.vm → tPc D ws tys H.size av av.toArray U :=
  fun U hU hW => ⟨rfl, by rw [hU], by rw [hU]; exact hP, va_K.moved hW.alike hK, hD.weaken (fun _ _ _ _ => trivial), tEx_warm hW hE⟩
theorem t_after {p : Program} {e : Env} {R : Room} {s : State} {m : MethodId} {args : Array Value} {below : List Frame} {meth : Method} {c : Code} {A : Nat → Prop} {H0 : Heap} {QQ : State → Prop} (F : tFx p l R s m args meth c A H0 M)
    {H : Heap} {locs : List Loc} {cells slots : Nat} {ls : Array Slot} {rest st0 : List Value} {ws : va_W} {tys : List (ClassId × FieldType)} (hw : tWd D A H0 s h ws tys H locs) (hl : tLc (ws.map Prod.fst) loc M.2.2.1 ls) (hs : tsr (ws.map Prod.fst) st rest)
    {mc ms : Nat} {a : Array Value} {Qc : Option tV → List tC → Prop} (hr : va_Run p l e R s m args below meth c H locs cells slots mc ms (F0 m pc ls st0) rest (tQc D ws H.size Qc a) (va_A ws H.size)) (hc : cells + (mc + kc) ≤ R.cells) (hsl : slots + (ms + ks) ≤ R.slots)
    (kk : ∀ rv h', Qc rv h' → TT l D M Q kc ks (pc + 3) loc (rv.toList ++ st) h')
    (K : ∀ (pc' : Nat) (loc' : tL) (st' : List tV) (h' : List tC) (H' : Heap) (locs' : List Loc) (cells' slots' : Nat) (ls' : Array Slot) (sv' : List Value) (ws' : va_W) (tys' : List (ClassId × FieldType)), Q pc' loc' st' h' → tWd D A H0 s h' ws' tys' H' locs' → tLc (ws'.map Prod.fst) loc' M.2.2.1 ls' → tsr (ws'.map Prod.fst) st' sv' → tPre (ws.map Prod.fst) (ws'.map Prod.fst) → cells' ≤ cells + (mc + kc) → slots' ≤ slots + (ms + ks) →
      W p l e R s m args below meth c H' locs' cells' slots' QQ (F0 m pc' ls' sv')) : W p l e R s m args below meth c H locs cells slots QQ (F0 m pc ls st0) := by
  intro T hT X
  obtain ⟨v, st₀, t, T', L, h0, X', hL, e1, e2, ⟨⟨rv, v', h', ws', tys', hv, hov, hq, hHR, hpre, hP, hK, hD⟩, hz, hk⟩, stp⟩ := hr T hT X
  have hv : v = v' := by cases hv; rfl
  subst hv
  rw [h0] at hz hk
  have hF : ∀ q, va_A ws H.size q → A q := by
    intro q hq
    rcases hq with ⟨k, e, hk⟩ | hq
    · exact hw.2.2.1.2 k _ hk
    · exact F.2.2.2.2.2.1 q (Nat.le_trans hw.2.2.2.2.1 hq)
  have hS := hw.2.2.2.2
  have hS' : va_S A H0 T'.heap (locs ++ L) := ⟨Nat.le_trans hS.1 (by rw [e1]; exact hz), fun q h1 h2 => by rw [e1, hk q (Nat.lt_of_lt_of_le h1 hS.1) (fun z => h2 (hF q z))]; exact hS.2.1 q h1 h2, fun q hq => by
      rcases List.mem_append.mp hq with h | h
      · exact hS.2.2 q h
      · exact hF _ (hL q h)⟩
  have hA : s.vm.Alike t.vm := by rw [← e2]; exact X'.warmed.alike
  have hs' : tsr (ws'.map Prod.fst) (rv.toList ++ st) (v.toList ++ rest) := by
    refine tsr_join ?_ (tsr_mono hpre hs)
    match rv, v, hov with
    | none, none, _ => rfl
    | some a, some b, hab => exact ⟨b, [], rfl, hab, rfl⟩
  obtain ⟨t2, a1, b1⟩ := kk rv h' hq p e R s m args below meth c A H0 QQ F T'.heap (locs ++ L) (cells + mc) (slots + ms) ls (v.toList ++ rest) ws' tys' ⟨hHR, by rw [e1]; exact hP, hD.weaken (fun _ q _ hq => hF _ hq), va_K.moved hA.symm hK, hS'⟩ (tLc_mono hpre hl) hs' (by omega) (by omega)
    (fun a1 a2 a3 a4 a5 a6 a7 a8 a9 b1 b2 b3 q1 q2 q3 q4 q5 q6 q7 => K a1 a2 a3 a4 a5 a6 a7 a8 a9 b1 b2 b3 q1 q2 q3 q4 (hpre.tr q5) (by omega) (by omega)) T' rfl X'
  exact ⟨t2, stp t2 a1, b1⟩
/-- what a call by name needs of the tables -/
def tLk (own : String) (idx : Nat) (y : MethodName) (b : ByteArray) (n : Nat) (r : Option FieldType) (np : Nat) : Prop := Cond.methodLink own idx y ∈ lw_good ∧ Cond.initialized y.cls ∈ lw_good ∧ Cond.code y b n r ∈ lw_good ∧ (y.cls ≠ "java/lang/invoke/MethodHandle" ∧ y.cls ≠ "java/lang/invoke/VarHandle" ∧ (parseMethodDescriptor y.desc).map (fun d => d.parameters.length) = some np)
theorem tLk_B {own : String} {idx : Nat} {y : MethodName} {b : ByteArray} {n : Nat} {r : Option FieldType} {np F L mc ms : Nat} (hk : tLk own idx y b n r np) {R : Room} {s : State} {args : Array Value} (ht : ∀ w ∈ lw_good, w.before args s = true) (h1 : F + 1 ≤ R.frames) (h2 : 8 + (n + 11) + L ≤ R.locals) : CallB R s args own idx y b n r (tWS y b n r) (tRm F L mc ms) mc ms np := by
  obtain ⟨k1, k2, k3, k4⟩ := hk
  refine callB_of (Ts := lw_good) (ws' := lw_good) np ht (fun w hw => ?_) rfl rfl rfl (ht _ k2) (ht _ k1) k4 ⟨h1, h2⟩
  have hw' : w ∈ lw_good := (List.mem_cons.mp hw).elim (fun e => by rw [e]; exact k3) id
  exact ⟨hw', lw_good_ok hw'⟩
theorem tt_callV {idx ci N F L mc ms n np a : Nat} {T : u_T} {y : MethodName} {b : ByteArray} {r : Option FieldType} {fs : List tV} {as : List tV} {Qc : Option tV → List tC → Prop} (hd : decode M.2.1 pc = .ok (.invokevirtual idx, 3)) (hk : tLk M.1 idx y b n r np) (hi : Cond.instanceMethod y ∈ lw_good) (hsel : Cond.selects y.cls y y ∈ lw_good) (hC : vwCl[ci]? = some (y.cls, T, N)) (ha : h[a]? = some (.inr (.inr (ci, fs)))) (hn : as.length = np) (hF : F + 1 ≤ M.2.2.2.1) (hL : 8 + (n + 11) + L ≤ M.2.2.2.2.1) (hst : st.length ≤ 8)
    (hM : TMc l D y b n r F L mc ms (.inr (some a) :: as) h Qc) (kk : ∀ rv h', Qc rv h' → TT l D M Q kc ks (pc + 3) loc (rv.toList ++ st) h') : TT l D M Q (mc + kc) (ms + ks) pc loc (as.reverse ++ .inr (some a) :: st) h := by
  intro p e R s m args below meth c A H0 QQ F' H locs cells slots ls sv ws tys hw hl hs hc hsl K
  obtain ⟨x, y', rfl, hx, w2, rest, rfl, r2, hs2⟩ := tsr_app hs
  have hx' := tsr_rev hx
  rw [List.reverse_reverse] at hx'
  obtain ⟨q, vs, h1, h2, h3⟩ := tobj hw.1 ha r2
  have hMet := hM ws tys H.size (.ref q :: x.reverse) hw.1 ⟨_, _, rfl, by rw [← h1]; exact r2, hx'⟩
  subst h1
  obtain ⟨lv, hl1, hl2⟩ := id hl
  refine t_after F' hw hl hs2 (va_runV (As := x.reverse) (C := y.cls) ⟨F'.1, F'.2.1, F'.2.2.1, F'.2.2.2.1, F'.2.2.2.2.1⟩ hMet ⟨tLk_B hk F'.2.2.2.2.1 (Nat.le_trans hF F'.2.2.2.2.2.2.1) (Nat.le_trans hL F'.2.2.2.2.2.2.2.1), F'.2.2.2.2.1 _ hi, F'.2.2.2.2.1 _ hsel⟩ ⟨tPc_blind, va_recv hw.2.2.2.1 hw.2.1 (ci := ci) (q0 := a) hC h2, tPc_at hw.2.1 hw.2.2.2.1 hw.2.2.1 F'.2.2.2.2.2.2.2.2.2⟩ rfl ?_ hl1.1 (by rw [List.reverse_reverse]) (lv_room (by rw [tsr_cat hs2]; exact hst)) hd ⟨by omega, by omega⟩) hc hsl kk K
  rw [List.length_reverse, tsr_len hx, List.length_reverse]; exact hn
theorem tt_callS {idx F L mc ms n np : Nat} {y : MethodName} {b : ByteArray} {r : Option FieldType} {as : List tV} {Qc : Option tV → List tC → Prop} (hd : decode M.2.1 pc = .ok (.invokestatic idx, 3)) (hk : tLk M.1 idx y b n r np) (hi : Cond.static y ∈ lw_good) (hn : as.length = np) (hF : F + 1 ≤ M.2.2.2.1) (hL : 8 + (n + 11) + L ≤ M.2.2.2.2.1) (hst : st.length ≤ 8)
    (hM : TMc l D y b n r F L mc ms as h Qc) (kk : ∀ rv h', Qc rv h' → TT l D M Q kc ks (pc + 3) loc (rv.toList ++ st) h') : TT l D M Q (mc + kc) (ms + ks) pc loc (as.reverse ++ st) h := by
  intro p e R s m args below meth c A H0 QQ F' H locs cells slots ls sv ws tys hw hl hs hc hsl K
  obtain ⟨x, rest, rfl, hx, hs2⟩ := tsr_app hs
  have hx' := tsr_rev hx
  rw [List.reverse_reverse] at hx'
  have hMet := hM ws tys H.size x.reverse hw.1 hx'
  obtain ⟨lv, hl1, hl2⟩ := id hl
  refine t_after F' hw hl hs2 (va_runS (As := x.reverse) ⟨F'.1, F'.2.1, F'.2.2.1, F'.2.2.2.1, F'.2.2.2.2.1⟩ hMet ⟨tLk_B hk F'.2.2.2.2.1 (Nat.le_trans hF F'.2.2.2.2.2.2.1) (Nat.le_trans hL F'.2.2.2.2.2.2.2.1), F'.2.2.2.2.1 _ hi⟩ ⟨tPc_blind, tPc_at hw.2.1 hw.2.2.2.1 hw.2.2.1 F'.2.2.2.2.2.2.2.2.2⟩ rfl ?_ hl1.1 (by rw [List.reverse_reverse]) (lv_room (by rw [tsr_cat hs2]; exact hst)) hd ⟨by omega, by omega⟩) hc hsl kk K
  rw [List.length_reverse, tsr_len hx, List.length_reverse]; exact hn
theorem tt_callI {idx F L mc ms n np a : Nat} {y : MethodName} {b : ByteArray} {as : List tV} {Qc : Option tV → List tC → Prop} (hd : decode M.2.1 pc = .ok (.invokespecial idx, 3)) (hk : tLk M.1 idx y b n none np) (hi : Cond.instanceMethod y ∈ lw_good) (hy : y.name = "<init>") (hn : as.length = np) (hF : F + 1 ≤ M.2.2.2.1) (hL : 8 + (n + 11) + L ≤ M.2.2.2.2.1) (hst : st.length ≤ 8)
    (hM : TMc l D y b n none F L mc ms (.inr (some a) :: as) h Qc) (kk : ∀ rv h', Qc rv h' → TT l D M Q kc ks (pc + 3) loc (rv.toList ++ st) h') : TT l D M Q (mc + kc) (ms + ks) pc loc (as.reverse ++ .inr (some a) :: st) h := by
  intro p e R s m args below meth c A H0 QQ F' H locs cells slots ls sv ws tys hw hl hs hc hsl K
  obtain ⟨x, y', rfl, hx, w2, rest, rfl, r2, hs2⟩ := tsr_app hs
  have hx' := tsr_rev hx
  rw [List.reverse_reverse] at hx'
  obtain ⟨q, h0, h1⟩ := id r2
  have hMet := hM ws tys H.size (.ref q :: x.reverse) hw.1 ⟨_, _, rfl, by rw [← h1]; exact r2, hx'⟩
  subst h1
  obtain ⟨lv, hl1, hl2⟩ := id hl
  refine t_after F' hw hl hs2 (va_runI (As := x.reverse) ⟨F'.1, F'.2.1, F'.2.2.1, F'.2.2.2.1, F'.2.2.2.2.1⟩ hMet ⟨tLk_B hk F'.2.2.2.2.1 (Nat.le_trans hF F'.2.2.2.2.2.2.1) (Nat.le_trans hL F'.2.2.2.2.2.2.2.1), hy, F'.2.2.2.2.1 _ hi⟩ ⟨tPc_blind, tPc_at hw.2.1 hw.2.2.2.1 hw.2.2.1 F'.2.2.2.2.2.2.2.2.2⟩ rfl ?_ hl1.1 (by rw [List.reverse_reverse]) (lv_room (by rw [tsr_cat hs2]; exact hst)) hd ⟨by omega, by omega⟩) hc hsl kk K
  rw [List.length_reverse, tsr_len hx, List.length_reverse]; exact hn
theorem tt_callIN {idx F L mc ms n np a : Nat} {host : String} {y : MethodName} {b : ByteArray} {as : List tV} {Qc : Option tV → List tC → Prop} (hd : decode M.2.1 pc = .ok (.invokespecial idx, 3)) (hini : Cond.initialized y.cls ∈ lw_good) (hcd : Cond.code y b n none ∈ lw_good) (hde : y.cls ≠ "java/lang/invoke/MethodHandle" ∧ y.cls ≠ "java/lang/invoke/VarHandle" ∧ (parseMethodDescriptor y.desc).map (fun d => d.parameters.length) = some np) (hi : Cond.instanceMethod y ∈ lw_good) (hne : ∀ U, tEx U → va_Nw (.methodLinkNest M.1 idx y host) U) (hy : y.name = "<init>") (hn : as.length = np) (hF : F + 1 ≤ M.2.2.2.1) (hL : 8 + (n + 11) + L ≤ M.2.2.2.2.1) (hst : st.length ≤ 8)
    (hM : TMc l D y b n none F L mc ms (.inr (some a) :: as) h Qc) (kk : ∀ rv h', Qc rv h' → TT l D M Q kc ks (pc + 3) loc (rv.toList ++ st) h') : TT l D M Q (mc + kc) (ms + ks) pc loc (as.reverse ++ .inr (some a) :: st) h := by
  intro p e R s m args below meth c A H0 QQ F' H locs cells slots ls sv ws tys hw hl hs hc hsl K
  obtain ⟨x, y', rfl, hx, w2, rest, rfl, r2, hs2⟩ := tsr_app hs
  have hx' := tsr_rev hx
  rw [List.reverse_reverse] at hx'
  obtain ⟨q, h0, h1⟩ := id r2
  have hMet := hM ws tys H.size (.ref q :: x.reverse) hw.1 ⟨_, _, rfl, by rw [← h1]; exact r2, hx'⟩
  subst h1
  obtain ⟨lv, hl1, hl2⟩ := id hl
  have cw := va_cnB (R := R) (own := M.1) (host := host) (index := idx) (Ts := lw_good) (ws := tWS y b n none) (rm := tRm F L mc ms) (mc := mc) (ms := ms) np F'.2.2.2.2.1 (fun w hw => by
    have hw' : w ∈ lw_good := (List.mem_cons.mp hw).elim (fun e => by rw [e]; exact hcd) id
    exact ⟨hw', lw_good_ok hw'⟩) rfl rfl rfl (hne _ F'.2.2.2.2.2.2.2.2.2) (F'.2.2.2.2.1 _ hini) hde ⟨Nat.le_trans hF F'.2.2.2.2.2.2.1, Nat.le_trans hL F'.2.2.2.2.2.2.2.1⟩
  refine t_after F' hw hl hs2 (va_runIN (As := x.reverse) ⟨F'.1, F'.2.1, F'.2.2.1, F'.2.2.2.1, F'.2.2.2.2.1⟩ hMet ⟨cw, hy, F'.2.2.2.2.1 _ hi⟩ ⟨tPc_blind, tPc_at hw.2.1 hw.2.2.2.1 hw.2.2.1 F'.2.2.2.2.2.2.2.2.2⟩ rfl ?_ hl1.1 (by rw [List.reverse_reverse]) (lv_room (by rw [tsr_cat hs2]; exact hst)) hd ⟨by omega, by omega⟩) hc hsl kk K
  rw [List.length_reverse, tsr_len hx, List.length_reverse]; exact hn
theorem tt_obj {idx a : Nat} (hd : decode M.2.1 pc = .ok (.invokespecial idx, 3)) (h1 : Cond.methodLink M.1 idx Lib.objectInit ∈ lw_good) (h2 : Cond.instanceMethod Lib.objectInit ∈ lw_good) (h3 : Cond.code Lib.objectInit ⟨#[0xb1]⟩ 1 none ∈ lw_good) (hF : 1 ≤ M.2.2.2.1) (hL : st.length + 12 ≤ M.2.2.2.2.1) (kk : TT l D M Q kc ks (pc + 3) loc st h) : TT l D M Q kc ks pc loc (.inr (some a) :: st) h := by
  intro p e R s m args below meth c A H0 QQ F H locs cells slots ls sv ws tys hw hl hs hc hsl K
  obtain ⟨w1, s1, e1, r1, hs⟩ := hs
  obtain ⟨q, h0, rfl⟩ := r1
  subst e1
  obtain ⟨lv, hl1, hl2⟩ := id hl
  refine W.objInit F.1 F.2.1 F.2.2.2.1 (F.2.2.2.2.1 _ h1) (F.2.2.2.2.1 _ h2) (F.2.2.2.2.1 _ h3) rfl (hl1.1.trans F.2.2.1.symm) rfl hd (Nat.le_trans hF F.2.2.2.2.2.2.1) ?_ (kk p e R s m args below meth c A H0 QQ F H locs cells slots ls _ ws tys hw hl hs hc hsl K)
  have := F.2.2.2.2.2.2.2.1
  rw [tsr_cat hs]
  show 2 * 0 + _ + 12 ≤ _
  omega
theorem tt_min {idx : Nat} {x y : Int32} (hd : decode M.2.1 pc = .ok (.invokestatic idx, 3)) (h1 : Cond.methodLink M.1 idx Lib.Math.min.name ∈ lw_good) (h2 : Cond.static Lib.Math.min.name ∈ lw_good) (h3 : Cond.initialized "java/lang/Math" ∈ lw_good) (h4 : Cond.code Lib.Math.min.name Lib.Math.min.code 2 (some .int) ∈ lw_good) (hF : 1 ≤ M.2.2.2.1) (hL : st.length + 13 ≤ M.2.2.2.2.1) (kk : TT l D M Q kc ks (pc + 3) loc (.inl (if y < x then y else x) :: st) h) : TT l D M Q kc ks pc loc (.inl y :: .inl x :: st) h := by
  intro p e R s m args below meth c A H0 QQ F H locs cells slots ls sv ws tys hw hl hs hc hsl K
  obtain ⟨w1, s1, e1, r1, w2, s2, e2, r2, hs⟩ := hs
  have r1 : w1 = .int y := r1
  have r2 : w2 = .int x := r2
  subst e1; subst e2; subst r1; subst r2
  obtain ⟨lv, hl1, hl2⟩ := id hl
  have := F.2.2.2.2.2.2.2.1
  exact va_mmin F.1 F.2.1 (F.2.2.1.trans hl1.1.symm) F.2.2.2.1 (F.2.2.2.2.1 _ h1) (F.2.2.2.2.1 _ h2) (F.2.2.2.2.1 _ h3) (F.2.2.2.2.1 _ h4) (Nat.le_trans hF F.2.2.2.2.2.2.1) (by rw [tsr_cat hs]; omega) (by omega) (by omega) hd (kk p e R s m args below meth c A H0 QQ F H locs cells slots ls _ ws tys hw hl ⟨_, _, rfl, rfl, hs⟩ hc hsl K)
theorem tt_max {idx : Nat} {x y : Int32} (hd : decode M.2.1 pc = .ok (.invokestatic idx, 3)) (h1 : Cond.methodLink M.1 idx Lib.Math.max.name ∈ lw_good) (h2 : Cond.static Lib.Math.max.name ∈ lw_good) (h3 : Cond.initialized "java/lang/Math" ∈ lw_good) (h4 : Cond.code Lib.Math.max.name Lib.Math.max.code 2 (some .int) ∈ lw_good) (hF : 1 ≤ M.2.2.2.1) (hL : st.length + 13 ≤ M.2.2.2.2.1) (kk : TT l D M Q kc ks (pc + 3) loc (.inl (if x < y then y else x) :: st) h) : TT l D M Q kc ks pc loc (.inl y :: .inl x :: st) h := by
  intro p e R s m args below meth c A H0 QQ F H locs cells slots ls sv ws tys hw hl hs hc hsl K
  obtain ⟨w1, s1, e1, r1, w2, s2, e2, r2, hs⟩ := hs
  have r1 : w1 = .int y := r1
  have r2 : w2 = .int x := r2
  subst e1; subst e2; subst r1; subst r2
  obtain ⟨lv, hl1, hl2⟩ := id hl
  have := F.2.2.2.2.2.2.2.1
  exact va_mmax F.1 F.2.1 (F.2.2.1.trans hl1.1.symm) F.2.2.2.1 (F.2.2.2.2.1 _ h1) (F.2.2.2.2.1 _ h2) (F.2.2.2.2.1 _ h3) (F.2.2.2.2.1 _ h4) (Nat.le_trans hF F.2.2.2.2.2.2.1) (by rw [tsr_cat hs]; omega) (by omega) (by omega) hd (kk p e R s m args below meth c A H0 QQ F H locs cells slots ls _ ws tys hw hl ⟨_, _, rfl, rfl, hs⟩ hc hsl K)
end TTK
