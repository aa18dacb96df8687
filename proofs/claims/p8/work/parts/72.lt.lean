/-! THE CLAIM OUT OF ONE WALK OF THE LAW'S BODY. Your part is whole_start (and what it stands on); all else here is the same for every law, but numbers. -/
def R_law : String := "LabelNetLaw"
def lw_P (b : Addr) (xs : List Int32) (args : Array Value) (s : State) : Prop := args = #[.ref b] ∧ s.IntsAt b xs ∧ xs.length ≤ 2561 ∧ (Jvm.Cond.and given_1 narrow_1).before args s = true
def lw_Q (_ : Array Value) (s : State) (o : Outcome) (t : State) : Prop := o = .returned (some (.int 1)) ∧ Framed s o t [] 601219 7292413
def lw_Z (below : List Frame) (a : Array Value) (s : State) : State → Prop := fun t => ∃ o, t.status = .running ∧ Ended t below o ∧ lw_Q a s o t
/-- the law's own end, with 1 on the stack, nothing written that was there before, its room as the claim has it -/
theorem lw_ret {p : Program} {l : Launch} {e : Env} {s : State} {m : MethodId} {below : List Frame} {meth : Method} {c : Code} {b : Nat} (hx : p.tables.exec = Jvm.exec) (hb : c.code = code) (hr : meth.sig.returnType = ret) (hlocks : meth.locks = false) {pc : Nat} {H : Heap} {ls : Array Slot} (hdg : decode code pc = .ok (.ireturn, 1)) : W p l e room_1 s m #[Value.ref b] below meth c H [] 601219 7292413 (lw_Z below #[Value.ref b] s) (F0 m pc ls [.int 1]) := by
  intro T hT X
  obtain ⟨fs, hret, hrun, hended, hW, hframe⟩ := X.leave (v := some (.int 1)) (hlocks := hlocks) (fun h => by rw [hr] at h; cases h)
  have hmeth' : T.vm.method? m = some meth := X.method'
  refine ⟨T.setFrames fs, ?_, .returned (some (.int 1)), hrun, hended, rfl, ⟨_, rfl⟩, hW, hframe⟩
  jvm_step X.here [X.here.top, hx, hb, hdg, hmeth', hr, ret, narrow_b1]
  (try refine ⟨rfl, ?_⟩); (try refine ⟨rfl, ?_⟩)
  first | (intro acts; rw [hret _ acts rfl rfl rfl]) | rw [hret _ _ rfl rfl rfl]
  exact Steps.refl _
/-- what holds at the law's entry: the machine, the code, the tables' words (any of lw_tbl by 'hts w (by decide +kernel)'), the script of L ints xs at the cell b, what the Statement gives of the start (any of its parts by flat_of_before) -/
def lw_At (p : Program) (s : State) (m : MethodId) (meth : Method) (c : Code) (b L : Nat) (xs : Nat → Int32) : Prop :=
  p.tables.exec = Jvm.exec ∧ c.code = code ∧ meth.sig.returnType = ret ∧ c.maxLocals = 7 ∧ s.vm.findClass R_law = some m.cls ∧ (∀ w ∈ lw_tbl, w.before #[Value.ref b] s = true) ∧ va_X b L xs s s.heap ∧ b < s.heap.size ∧ meth.locks = false ∧ (Jvm.Cond.and given_1 narrow_1).before #[Value.ref b] s = true

/-! THE LAW'S OWN FRAME: as TT, but local 0 is the script, which lies outside the picture. -/
def lA (s : State) : Nat → Prop := fun q => s.heap.size ≤ q
abbrev lM : tM := (RL, cL_law, 7, 11, 470, false)
def LC (p : Program) (l : Launch) (s : State) (m : MethodId) (meth : Method) (c : Code) (b L : Nat) (xs : Nat → Int32) : Prop :=
  tFx p l room_1 s m #[Value.ref b] meth c (lA s) s.heap lM ∧ va_X b L xs s s.heap ∧ b < s.heap.size ∧ meth.sig.returnType = ret ∧ meth.locks = false ∧ tXw s ∧ tXh (lA s) s s.heap ∧ L ≤ 2561
def lLc (b : Nat) (as : List Nat) (loc : tL) (ls : Array Slot) : Prop := ∃ lv : List (Nat × Value), lv_has ls 7 lv ∧ (0, Value.ref b) ∈ lv ∧ ∀ q ∈ loc, q.1 ≠ 0 ∧ ∃ w : Value, (q.1, w) ∈ lv ∧ tvr as q.2 w
def LT (p : Program) (l : Launch) (e : Env) (s : State) (m : MethodId) (below : List Frame) (meth : Method) (c : Code) (b : Nat) (D : va_G) (kc ks pc : Nat) (loc : tL) (st : List tV) (h : List tC) : Prop :=
  ∀ (H : Heap) (locs : List Loc) (cells slots : Nat) (ls : Array Slot) (sv : List Value) (ws : va_W) (tys : List (ClassId × FieldType)), tWd D (lA s) s.heap s h ws tys H locs → lLc b (ws.map Prod.fst) loc ls → tsr (ws.map Prod.fst) st sv → cells + kc ≤ 601219 → slots + ks ≤ 7292413 →
    W p l e room_1 s m #[Value.ref b] below meth c H locs cells slots (lw_Z below #[Value.ref b] s) (F0 m pc ls sv)
section LTR
variable {p : Program} {l : Launch} {e : Env} {s : State} {m : MethodId} {below : List Frame} {meth : Method} {c : Code} {b L : Nat} {xs : Nat → Int32} {D : va_G} {kc ks pc : Nat} {loc : tL} {st : List tV} {h : List tC}
theorem lLc_mono {a a' : List Nat} (hp : tPre a a') {ls : Array Slot} (hl : lLc b a loc ls) : lLc b a' loc ls := by
  obtain ⟨lv, h1, h0, h2⟩ := hl
  exact ⟨lv, h1, h0, fun q hq => ⟨(h2 q hq).1, by obtain ⟨w, x, y⟩ := (h2 q hq).2; exact ⟨w, x, tvr_mono hp y⟩⟩⟩
theorem lLc_at {as : List Nat} {ls : Array Slot} (hl : lLc b as loc ls) {i : Nat} {v : tV} (hm : (i, v) ∈ loc) : ∃ w, ls[i]? = some (.val w) ∧ tvr as v w := by
  obtain ⟨lv, h1, h0, h2⟩ := hl
  obtain ⟨-, w, h3, h4⟩ := h2 _ hm
  exact ⟨w, h1.2.2 _ h3, h4⟩
theorem lLc_0 {as : List Nat} {ls : Array Slot} (hl : lLc b as loc ls) : ls[0]? = some (.val (.ref b)) := by
  obtain ⟨lv, h1, h0, h2⟩ := hl
  exact h1.2.2 _ h0
theorem lLc_sz {as : List Nat} {ls : Array Slot} (hl : lLc b as loc ls) : ls.size = 7 := by
  obtain ⟨lv, h1, h0, h2⟩ := hl
  exact h1.1
theorem lLc_st {as : List Nat} {ls' : Array Slot} {lv : List (Nat × Value)} {i : Nat} {v : tV} {w : Value} (h1 : lv_has ls' 7 ((i, w) :: lv.filter (fun q => !(q.1 == i) && !(q.1 + 1 == i && q.2.category == 2)))) (h0 : (0, Value.ref b) ∈ lv) (h2 : ∀ q ∈ loc, q.1 ≠ 0 ∧ ∃ w : Value, (q.1, w) ∈ lv ∧ tvr as q.2 w) (hi : i ≠ 0) (hv : tvr as v w) : lLc b as (tSt loc i v) ls' := by
  refine ⟨_, h1, List.mem_cons_of_mem _ (List.mem_filter.mpr ⟨h0, ?_⟩), fun q hq => ⟨?_, tLc_st (fun q hq => (h2 q hq).2) hv q hq⟩⟩
  · have e : ((0 : Nat) == i) = false := by simpa using (Ne.symm hi)
    show (!((0 : Nat) == i) && !((0 + 1 == i) && ((Value.ref b).category == 2))) = true
    rw [e]
    simp [Value.category]
  · rcases List.mem_cons.mp hq with rfl | hq
    · exact hi
    · exact (h2 q (List.mem_filter.mp hq).1).1
theorem lt_loc (loc' : tL) (hs : ∀ q ∈ loc', q ∈ loc) (k : LT p l e s m below meth c b D kc ks pc loc' st h) : LT p l e s m below meth c b D kc ks pc loc st h := by
  intro H locs cells slots ls sv ws tys hw hl hs' hc hsl
  obtain ⟨lv, h1, h0, h2⟩ := hl
  exact k H locs cells slots ls sv ws tys hw ⟨lv, h1, h0, fun q hq => h2 q (hs q hq)⟩ hs' hc hsl
theorem lt_less {kc' ks' : Nat} (h1 : kc' ≤ kc) (h2 : ks' ≤ ks) (k : LT p l e s m below meth c b D kc' ks' pc loc st h) : LT p l e s m below meth c b D kc ks pc loc st h := by
  intro H locs cells slots ls sv ws tys hw hl hs' hc hsl
  exact k H locs cells slots ls sv ws tys hw hl hs' (by omega) (by omega)
theorem lt_aload_n (C : LC p l s m meth c b L xs) {k0 : Fin 4} {r : Nat} (hd : decode cL_law pc = .ok (.aload_n k0, 1)) (hm : ((k0 : Nat), Sum.inr (some r)) ∈ loc) (k : LT p l e s m below meth c b D kc ks (pc + 1) loc (.inr (some r) :: st) h) : LT p l e s m below meth c b D kc ks pc loc st h := by
  intro H locs cells slots ls sv ws tys hw hl hs hc hsl
  obtain ⟨w, h1, h2⟩ := lLc_at hl hm
  obtain ⟨a, h3, h4⟩ := id h2
  subst h4
  exact lv_aload_n C.1.1 C.1.2.1 hd rfl h1 (k H locs cells slots ls _ ws tys hw hl ⟨_, _, rfl, h2, hs⟩ hc hsl)
theorem lt_iload (C : LC p l s m meth c b L xs) {i : Nat} {x : Int32} (hd : decode cL_law pc = .ok (.iload i, 2)) (hm : (i, Sum.inl x) ∈ loc) (k : LT p l e s m below meth c b D kc ks (pc + 2) loc (.inl x :: st) h) : LT p l e s m below meth c b D kc ks pc loc st h := by
  intro H locs cells slots ls sv ws tys hw hl hs hc hsl
  obtain ⟨w, h1, h2⟩ := lLc_at hl hm
  have h3 : w = .int x := h2
  subst h3
  exact lv_iload C.1.1 C.1.2.1 hd h1 (k H locs cells slots ls _ ws tys hw hl ⟨_, _, rfl, h2, hs⟩ hc hsl)
theorem lt_iconst (C : LC p l s m meth c b L xs) {n : Int} (hd : decode cL_law pc = .ok (.iconst n, 1)) (hn : (Int32.ofInt n).toInt = n) (k : ∀ z : Int32, z.toInt = n → LT p l e s m below meth c b D kc ks (pc + 1) loc (.inl z :: st) h) : LT p l e s m below meth c b D kc ks pc loc st h := by
  intro H locs cells slots ls sv ws tys hw hl hs hc hsl
  exact lv_iconst C.1.1 C.1.2.1 hd rfl (k _ hn H locs cells slots ls _ ws tys hw hl ⟨_, _, rfl, rfl, hs⟩ hc hsl)
theorem lt_goto (C : LC p l s m meth c b L xs) {off : Int} {tgt : Nat} (hd : decode cL_law pc = .ok (.goto off, 3)) (ht : (pc : Int) + off = (tgt : Int)) (k : LT p l e s m below meth c b D kc ks tgt loc st h) : LT p l e s m below meth c b D kc ks pc loc st h := by
  intro H locs cells slots ls sv ws tys hw hl hs hc hsl
  exact lv_goto C.1.1 C.1.2.1 hd ht (k H locs cells slots ls _ ws tys hw hl hs hc hsl)
theorem lt_istore (C : LC p l s m meth c b L xs) {i : Nat} {x : Int32} (hd : decode cL_law pc = .ok (.istore i, 2)) (hi : i ≠ 0) (hn : i < 7) (k : LT p l e s m below meth c b D kc ks (pc + 2) (tSt loc i (.inl x)) st h) : LT p l e s m below meth c b D kc ks pc loc (.inl x :: st) h := by
  intro H locs cells slots ls sv ws tys hw hl hs hc hsl
  obtain ⟨w1, s1, e1, r1, hs⟩ := hs
  have r1 : w1 = .int x := r1
  subst e1; subst r1
  obtain ⟨lv, h1, h0, h2⟩ := hl
  exact lv_istore C.1.1 C.1.2.1 hd h1 hn rfl (fun ls' hl' => k H locs cells slots ls' _ ws tys hw (lLc_st hl' h0 h2 hi rfl) hs hc hsl)
theorem lt_astore_n (C : LC p l s m meth c b L xs) {k0 : Fin 4} {r : Nat} (hd : decode cL_law pc = .ok (.astore_n k0, 1)) (hi : (k0 : Nat) ≠ 0) (hn : (k0 : Nat) < 7) (k : LT p l e s m below meth c b D kc ks (pc + 1) (tSt loc (k0 : Nat) (.inr (some r))) st h) : LT p l e s m below meth c b D kc ks pc loc (.inr (some r) :: st) h := by
  intro H locs cells slots ls sv ws tys hw hl hs hc hsl
  obtain ⟨w1, s1, e1, r1, hs⟩ := hs
  obtain ⟨a, h3, h4⟩ := id r1
  subst e1; subst h4
  obtain ⟨lv, h1, h0, h2⟩ := hl
  exact lv_astore_n C.1.1 C.1.2.1 hd rfl h1 hn rfl (fun ls' hl' => k H locs cells slots ls' _ ws tys hw (lLc_st hl' h0 h2 hi r1) hs hc hsl)
theorem lt_iinc (C : LC p l s m meth c b L xs) {i : Nat} {n : Int} {x : Int32} (hd : decode cL_law pc = .ok (.iinc i n, 3)) (hm : (i, Sum.inl x) ∈ loc) (hi : i ≠ 0) (hn : i < 7) (k : LT p l e s m below meth c b D kc ks (pc + 3) (tSt loc i (.inl (x + Int32.ofInt n))) st h) : LT p l e s m below meth c b D kc ks pc loc st h := by
  intro H locs cells slots ls sv ws tys hw hl hs hc hsl
  obtain ⟨lv, h1, h0, h2⟩ := hl
  obtain ⟨-, w, g1, g2⟩ := h2 _ hm
  have g2 : w = .int x := g2
  subst g2
  obtain ⟨j, hj⟩ := List.getElem?_of_mem g1
  exact lv_iinc C.1.1 C.1.2.1 hd h1 hj rfl hn rfl (fun ls' hl' => k H locs cells slots ls' _ ws tys hw (lLc_st hl' h0 h2 hi rfl) hs hc hsl)
theorem lt_pop (C : LC p l s m meth c b L xs) {x : tV} (hd : decode cL_law pc = .ok (.pop, 1)) (k : LT p l e s m below meth c b D kc ks (pc + 1) loc st h) : LT p l e s m below meth c b D kc ks pc loc (x :: st) h := by
  intro H locs cells slots ls sv ws tys hw hl hs hc hsl
  obtain ⟨w1, s1, e1, r1, hs⟩ := hs
  subst e1
  exact lv_pop C.1.1 C.1.2.1 hd (tvr_cat r1) (k H locs cells slots ls _ ws tys hw hl hs hc hsl)
theorem lt_dup (C : LC p l s m meth c b L xs) {x : tV} (hd : decode cL_law pc = .ok (.dup, 1)) (k : LT p l e s m below meth c b D kc ks (pc + 1) loc (x :: x :: st) h) : LT p l e s m below meth c b D kc ks pc loc (x :: st) h := by
  intro H locs cells slots ls sv ws tys hw hl hs hc hsl
  obtain ⟨w1, s1, e1, r1, hs⟩ := hs
  subst e1
  exact lv_dup C.1.1 C.1.2.1 hd (tvr_cat r1) (k H locs cells slots ls _ ws tys hw hl ⟨_, _, rfl, r1, _, _, rfl, r1, hs⟩ hc hsl)
/-- an int of the script -/
theorem lt_sld (C : LC p l s m meth c b L xs) {i : Int32} {j n : Nat} (d0 : decode cL_law pc = .ok (.aload_n 0, 1)) (d1 : decode cL_law (pc + 1) = .ok (.iload 4, 2)) (d2 : decode cL_law (pc + 1 + 2) = .ok (.iconst (n : Int), 1)) (d3 : decode cL_law (pc + 1 + 2 + 1) = .ok (.iadd, 1)) (d4 : decode cL_law (pc + 1 + 2 + 1 + 1) = .ok (.iaload, 1)) (hm : (4, Sum.inl i) ∈ loc) (hi : i.toInt = j) (hlt : j + n < L) (k : LT p l e s m below meth c b D kc ks (pc + 1 + 2 + 1 + 1 + 1) loc (.inl (xs (j + n)) :: st) h) : LT p l e s m below meth c b D kc ks pc loc st h := by
  intro H locs cells slots ls sv ws tys hw hl hs hc hsl
  have h0 := lLc_0 hl
  obtain ⟨w, h1, h2⟩ := lLc_at hl hm
  have h3 : w = .int i := h2
  subst h3
  have hL := C.2.2.2.2.2.2.2
  have ez : (Int32.ofInt (n : Int)).toInt = n := i_ofI (by omega)
  have ea : (i + Int32.ofInt (n : Int)).toInt = ((j + n : Nat) : Int) := by rw [i_add (by omega)]; omega
  have ix := i_ix ea
  refine lv_aload_n C.1.1 C.1.2.1 d0 rfl h0 (lv_iload C.1.1 C.1.2.1 d1 h1 (lv_iconst C.1.1 C.1.2.1 d2 rfl (lv_iadd C.1.1 C.1.2.1 d3 (va_sld C.1.1 C.1.2.1 C.2.1 C.2.2.1 (A := lA s) (Nat.not_le.mpr C.2.2.1) hw.2.2.2.2 (t_in (i_nn (by omega)) (by rw [ix]; exact hlt)) d4 ?_))))
  rw [ix]
  exact k H locs cells slots ls _ ws tys hw hl ⟨_, _, rfl, rfl, hs⟩ hc hsl
/-- x != 0, as an int -/
theorem lt_bool (C : LC p l s m meth c b L xs) {x : Int32} (d0 : decode cL_law pc = .ok (.ifCond .eq 7, 3)) (d1 : decode cL_law (pc + 3) = .ok (.iconst 1, 1)) (d2 : decode cL_law (pc + 3 + 1) = .ok (.goto 4, 3)) (d3 : decode cL_law (pc + 7) = .ok (.iconst 0, 1)) (k : ∀ v : Int32, v = (if x = 0 then 0 else 1) → 0 ≤ v.toInt → v.toInt ≤ 1 → LT p l e s m below meth c b D kc ks (pc + 8) loc (.inl v :: st) h) : LT p l e s m below meth c b D kc ks pc loc (.inl x :: st) h := by
  intro H locs cells slots ls sv ws tys hw hl hs hc hsl
  obtain ⟨w1, s1, e1, r1, hs⟩ := hs
  have r1 : w1 = .int x := r1
  subst e1; subst r1
  refine lv_if_eq (tgt := pc + 7) C.1.1 C.1.2.1 d0 (by omega) (fun z9 => ?_) (fun z9 => ?_)
  · exact lv_iconst (v := 0) C.1.1 C.1.2.1 d3 rfl (k 0 (by rw [if_pos z9]) (by decide) (by decide) H locs cells slots ls _ ws tys hw hl ⟨_, _, rfl, rfl, hs⟩ hc hsl)
  · exact lv_iconst (v := 1) C.1.1 C.1.2.1 d1 rfl (lv_goto (tgt := pc + 8) C.1.1 C.1.2.1 d2 (by omega) (k 1 (by rw [if_neg z9]) (by decide) (by decide) H locs cells slots ls _ ws tys hw hl ⟨_, _, rfl, rfl, hs⟩ hc hsl))
theorem lt_icmpeq (C : LC p l s m meth c b L xs) {x y : Int32} {off : Int} {tgt : Nat} (hd : decode cL_law pc = .ok (.if_icmp .eq off, 3)) (ht : (pc : Int) + off = (tgt : Int)) (kt : x = y → LT p l e s m below meth c b D kc ks tgt loc st h) (kf : ¬ x = y → LT p l e s m below meth c b D kc ks (pc + 3) loc st h) : LT p l e s m below meth c b D kc ks pc loc (.inl y :: .inl x :: st) h := by
  intro H locs cells slots ls sv ws tys hw hl hs hc hsl
  obtain ⟨w0, s0, e0, r0, w1, s1, e1, r1, hs⟩ := hs
  have r0 : w0 = .int y := r0
  have r1 : w1 = .int x := r1
  subst e0; subst e1; subst r0; subst r1
  exact lv_icmp_eq C.1.1 C.1.2.1 hd ht (fun z => kt z H locs cells slots ls _ ws tys hw hl hs hc hsl) (fun z => kf z H locs cells slots ls _ ws tys hw hl hs hc hsl)
/-- the loop's head -/
theorem lt_head (C : LC p l s m meth c b L xs) {i : Int32} {j : Nat} (hm : (4, Sum.inl i) ∈ loc) (hi : i.toInt = j) (hj : j ≤ 3000) (kt : L < j + 5 → LT p l e s m below meth c b D kc ks 743 loc st h) (kf : j + 5 ≤ L → LT p l e s m below meth c b D kc ks 42 loc st h) : LT p l e s m below meth c b D kc ks 33 loc st h := by
  intro H locs cells slots ls sv ws tys hw hl hs hc hsl
  have h0 := lLc_0 hl
  obtain ⟨w, h1, h2⟩ := lLc_at hl hm
  have h3 : w = .int i := h2
  subst h3
  have hL := C.2.2.2.2.2.2.2
  have e0 : (Int32.ofNat L).toInt = (L : Int) := Int32.toInt_ofNat_of_lt (by omega)
  have e5 : (Int32.ofInt 5).toInt = 5 := by decide
  have es : (Int32.ofNat L - Int32.ofInt 5).toInt = (L : Int) - 5 := by rw [i_sub (by omega)]; omega
  refine lv_iload (pc := 33) C.1.1 C.1.2.1 dL_law_33 h1 (lv_aload_n C.1.1 C.1.2.1 dL_law_35 rfl h0 (va_slen C.1.1 C.1.2.1 C.2.1 C.2.2.1 (A := lA s) (Nat.not_le.mpr C.2.2.1) hw.2.2.2.2 dL_law_36 (lv_iconst C.1.1 C.1.2.1 dL_law_37 rfl (lv_isub C.1.1 C.1.2.1 dL_law_38 (lv_icmp_gt (tgt := 743) C.1.1 C.1.2.1 dL_law_39 (by decide) (fun z => ?_) (fun z => ?_))))))
  · have := Int32.lt_iff_toInt_lt.mp z
    exact kt (by omega) H locs cells slots ls _ ws tys hw hl hs hc hsl
  · have : ¬ (Int32.ofNat L - Int32.ofInt 5).toInt < i.toInt := fun y => z (Int32.lt_iff_toInt_lt.mpr y)
    exact kf (by omega) H locs cells slots ls _ ws tys hw hl hs hc hsl
/-- the switch -/
theorem lt_switch (C : LC p l s m meth c b L xs) {i : Int32} {j : Nat} (hm : (4, Sum.inl i) ∈ loc) (hi : i.toInt = j) (hj : j + 5 ≤ L) (k : ∀ t ∈ [116, 177, 230, 267, 307, 335, 387, 467, 504, 553, 590, 639, 700, 737], LT p l e s m below meth c b D kc ks t loc st h) : LT p l e s m below meth c b D kc ks 42 loc st h := by
  intro H locs cells slots ls sv ws tys hw hl hs hc hsl
  have h0 := lLc_0 hl
  obtain ⟨w, h1, h2⟩ := lLc_at hl hm
  have h3 : w = .int i := h2
  subst h3
  have ix := i_ix hi
  refine lv_aload_n (pc := 42) C.1.1 C.1.2.1 dL_law_42 rfl h0 (lv_iload C.1.1 C.1.2.1 dL_law_43 h1 (va_sld C.1.1 C.1.2.1 C.2.1 C.2.2.1 (A := lA s) (Nat.not_le.mpr C.2.2.1) hw.2.2.2.2 (t_in (i_nn (by omega)) (by rw [ix]; omega)) dL_law_45 (lv_bipush C.1.1 C.1.2.1 dL_law_46 rfl (lv_iand C.1.1 C.1.2.1 dL_law_48 ?_))))
  obtain ⟨v, hv⟩ : ∃ v, v = xs i.toNatClampNeg &&& (Int8.ofInt 15).toInt32 := ⟨_, rfl⟩
  rw [← hv]
  have kk : ∀ t ∈ [116, 177, 230, 267, 307, 335, 387, 467, 504, 553, 590, 639, 700, 737], W p l e room_1 s m #[Value.ref b] below meth c H locs cells slots (lw_Z below #[Value.ref b] s) (F0 m t ls sv) := fun t ht => k t ht H locs cells slots ls _ ws tys hw hl hs hc hsl
  by_cases z : v.toInt < 0 ∨ 12 < v.toInt
  · exact lv_tableOut (pc := 49) (tgt := 737) C.1.1 C.1.2.1 dL_law_49 z (by decide) (kk 737 (by decide))
  · have z1 : ¬ v.toInt < 0 := fun y => z (Or.inl y)
    have z2 : ¬ 12 < v.toInt := fun y => z (Or.inr y)
    have cs : v.toInt = 0 ∨ v.toInt = 1 ∨ v.toInt = 2 ∨ v.toInt = 3 ∨ v.toInt = 4 ∨ v.toInt = 5 ∨ v.toInt = 6 ∨ v.toInt = 7 ∨ v.toInt = 8 ∨ v.toInt = 9 ∨ v.toInt = 10 ∨ v.toInt = 11 ∨ v.toInt = 12 := by omega
    rcases cs with y | y | y | y | y | y | y | y | y | y | y | y | y
    · exact lv_tableIn (pc := 49) (tgt := 116) C.1.1 C.1.2.1 dL_law_49 z1 z2 (by rw [y]; rfl) (by decide) (kk 116 (by decide))
    · exact lv_tableIn (pc := 49) (tgt := 177) C.1.1 C.1.2.1 dL_law_49 z1 z2 (by rw [y]; rfl) (by decide) (kk 177 (by decide))
    · exact lv_tableIn (pc := 49) (tgt := 230) C.1.1 C.1.2.1 dL_law_49 z1 z2 (by rw [y]; rfl) (by decide) (kk 230 (by decide))
    · exact lv_tableIn (pc := 49) (tgt := 267) C.1.1 C.1.2.1 dL_law_49 z1 z2 (by rw [y]; rfl) (by decide) (kk 267 (by decide))
    · exact lv_tableIn (pc := 49) (tgt := 307) C.1.1 C.1.2.1 dL_law_49 z1 z2 (by rw [y]; rfl) (by decide) (kk 307 (by decide))
    · exact lv_tableIn (pc := 49) (tgt := 335) C.1.1 C.1.2.1 dL_law_49 z1 z2 (by rw [y]; rfl) (by decide) (kk 335 (by decide))
    · exact lv_tableIn (pc := 49) (tgt := 387) C.1.1 C.1.2.1 dL_law_49 z1 z2 (by rw [y]; rfl) (by decide) (kk 387 (by decide))
    · exact lv_tableIn (pc := 49) (tgt := 467) C.1.1 C.1.2.1 dL_law_49 z1 z2 (by rw [y]; rfl) (by decide) (kk 467 (by decide))
    · exact lv_tableIn (pc := 49) (tgt := 504) C.1.1 C.1.2.1 dL_law_49 z1 z2 (by rw [y]; rfl) (by decide) (kk 504 (by decide))
    · exact lv_tableIn (pc := 49) (tgt := 553) C.1.1 C.1.2.1 dL_law_49 z1 z2 (by rw [y]; rfl) (by decide) (kk 553 (by decide))
    · exact lv_tableIn (pc := 49) (tgt := 590) C.1.1 C.1.2.1 dL_law_49 z1 z2 (by rw [y]; rfl) (by decide) (kk 590 (by decide))
    · exact lv_tableIn (pc := 49) (tgt := 639) C.1.1 C.1.2.1 dL_law_49 z1 z2 (by rw [y]; rfl) (by decide) (kk 639 (by decide))
    · exact lv_tableIn (pc := 49) (tgt := 700) C.1.1 C.1.2.1 dL_law_49 z1 z2 (by rw [y]; rfl) (by decide) (kk 700 (by decide))
theorem lt_end (C : LC p l s m meth c b L xs) : LT p l e s m below meth c b D kc ks 743 loc [] h := by
  intro H locs cells slots ls sv ws tys hw hl hs hc hsl
  have e1 : sv = [] := hs
  subst e1
  refine lv_iconst (pc := 743) (v := 1) C.1.1 C.1.2.1 dL_law_743 (by decide) ?_
  exact va_forget (fun q hq => hw.2.2.2.2.2.2 q hq) (W.widen (by omega) (by omega) (lw_ret C.1.1 C.1.2.1 C.2.2.2.1 C.2.2.2.2.1 dL_law_744))
theorem lt_after (C : LC p l s m meth c b L xs) {H : Heap} {locs : List Loc} {cells slots : Nat} {ls : Array Slot} {rest st0 : List Value} {ws : va_W} {tys : List (ClassId × FieldType)} (hw : tWd D (lA s) s.heap s h ws tys H locs) (hl : lLc b (ws.map Prod.fst) loc ls) (hs : tsr (ws.map Prod.fst) st rest)
    {mc ms : Nat} {a : Array Value} {Qc : Option tV → List tC → Prop} (hr : va_Run p l e room_1 s m #[Value.ref b] below meth c H locs cells slots mc ms (F0 m pc ls st0) rest (tQc D ws H.size Qc a) (va_A ws H.size)) (hc : cells + (mc + kc) ≤ 601219) (hsl : slots + (ms + ks) ≤ 7292413)
    (kk : ∀ rv h', Qc rv h' → LT p l e s m below meth c b D kc ks (pc + 3) loc (rv.toList ++ st) h') : W p l e room_1 s m #[Value.ref b] below meth c H locs cells slots (lw_Z below #[Value.ref b] s) (F0 m pc ls st0) := by
  intro T hT X
  obtain ⟨v, st₀, t, T', L1, h0, X', hL, e1, e2, ⟨⟨rv, v', h', ws', tys', hv, hov, hq, hHR, hpre, hP, hK, hD⟩, hF⟩, stp⟩ := hr T hT X
  have hv : v = v' := by cases hv; rfl
  subst hv
  have hS' := tx_keep hw C.1.2.2.2.2.2.1 h0 e1 hL hF
  have hA : s.vm.Alike t.vm := by rw [← e2]; exact X'.warmed.alike
  have hs' : tsr (ws'.map Prod.fst) (rv.toList ++ st) (v.toList ++ rest) := by
    refine tsr_join ?_ (tsr_mono hpre hs)
    match rv, v, hov with
    | none, none, _ => rfl
    | some a, some b, hab => exact ⟨b, [], rfl, hab, rfl⟩
  obtain ⟨t2, a1, b1⟩ := kk rv h' hq T'.heap (locs ++ L1) (cells + mc) (slots + ms) ls (v.toList ++ rest) ws' tys' ⟨hHR, by rw [e1]; exact hP, hD.weaken (fun _ q _ hq => tx_free hw C.1.2.2.2.2.2.1 _ hq), va_K.moved hA.symm hK, hS'⟩ (lLc_mono hpre hl) hs' (by omega) (by omega) T' rfl X'
  exact ⟨t2, stp t2 a1, b1⟩
theorem lt_callV (C : LC p l s m meth c b L xs) {idx ci N F L2 mc ms n np a : Nat} {T : u_T} {y : MethodName} {b2 : ByteArray} {r : Option FieldType} {fs : List tV} {as : List tV} {Qc : Option tV → List tC → Prop} (hd : decode cL_law pc = .ok (.invokevirtual idx, 3)) (hk : tLk RL idx y b2 n r np) (hi : Cond.instanceMethod y ∈ lw_good) (hsel : Cond.selects y.cls y y ∈ lw_good) (hC : vwCl[ci]? = some (y.cls, T, N)) (ha : h[a]? = some (.inr (.inr (ci, fs)))) (hn : as.length = np) (hF : F + 1 ≤ 11) (hL : 8 + (n + 11) + L2 ≤ 470) (hst : st.length ≤ 8)
    (hM : TMc l D y b2 n r F L2 mc ms (.inr (some a) :: as) h Qc) (kk : ∀ rv h', Qc rv h' → LT p l e s m below meth c b D kc ks (pc + 3) loc (rv.toList ++ st) h') : LT p l e s m below meth c b D (mc + kc) (ms + ks) pc loc (as.reverse ++ .inr (some a) :: st) h := by
  intro H locs cells slots ls sv ws tys hw hl hs hc hsl
  obtain ⟨x, y', rfl, hx, w2, rest, rfl, r2, hs2⟩ := tsr_app hs
  have hx' := tsr_rev hx
  rw [List.reverse_reverse] at hx'
  obtain ⟨q, vs, h1, h2, h3⟩ := tobj hw.1 ha r2
  have hMet := hM ws tys H.size (.ref q :: x.reverse) hw.1 ⟨_, _, rfl, by rw [← h1]; exact r2, hx'⟩
  subst h1
  have F' := C.1
  refine lt_after C hw hl hs2 (va_runV (As := x.reverse) (C := y.cls) ⟨F'.1, F'.2.1, F'.2.2.1, F'.2.2.2.1, F'.2.2.2.2.1⟩ hMet ⟨tLk_B hk F'.2.2.2.2.1 hF hL, F'.2.2.2.2.1 _ hi, F'.2.2.2.2.1 _ hsel⟩ ⟨tPc_blind, va_recv hw.2.2.2.1 hw.2.1 (ci := ci) (q0 := a) hC h2, tPc_at hw.2.1 hw.2.2.2.1 hw.2.2.1 F'.2.2.2.2.2.2.2.2.2⟩ rfl ?_ (lLc_sz hl) (by rw [List.reverse_reverse]) (lv_room (by rw [tsr_cat hs2]; exact hst)) hd ⟨by show _ ≤ 601219; omega, by show _ ≤ 7292413; omega⟩) hc hsl kk
  rw [List.length_reverse, tsr_len hx, List.length_reverse]; exact hn
theorem lt_callI (C : LC p l s m meth c b L xs) {idx F L2 mc ms n np a : Nat} {y : MethodName} {b2 : ByteArray} {as : List tV} {Qc : Option tV → List tC → Prop} (hd : decode cL_law pc = .ok (.invokespecial idx, 3)) (hk : tLk RL idx y b2 n none np) (hi : Cond.instanceMethod y ∈ lw_good) (hy : y.name = "<init>") (hn : as.length = np) (hF : F + 1 ≤ 11) (hL : 8 + (n + 11) + L2 ≤ 470) (hst : st.length ≤ 8)
    (hM : TMc l D y b2 n none F L2 mc ms (.inr (some a) :: as) h Qc) (kk : ∀ rv h', Qc rv h' → LT p l e s m below meth c b D kc ks (pc + 3) loc (rv.toList ++ st) h') : LT p l e s m below meth c b D (mc + kc) (ms + ks) pc loc (as.reverse ++ .inr (some a) :: st) h := by
  intro H locs cells slots ls sv ws tys hw hl hs hc hsl
  obtain ⟨x, y', rfl, hx, w2, rest, rfl, r2, hs2⟩ := tsr_app hs
  have hx' := tsr_rev hx
  rw [List.reverse_reverse] at hx'
  obtain ⟨q, h0, h1⟩ := id r2
  have hMet := hM ws tys H.size (.ref q :: x.reverse) hw.1 ⟨_, _, rfl, by rw [← h1]; exact r2, hx'⟩
  subst h1
  have F' := C.1
  refine lt_after C hw hl hs2 (va_runI (As := x.reverse) ⟨F'.1, F'.2.1, F'.2.2.1, F'.2.2.2.1, F'.2.2.2.2.1⟩ hMet ⟨tLk_B hk F'.2.2.2.2.1 hF hL, hy, F'.2.2.2.2.1 _ hi⟩ ⟨tPc_blind, tPc_at hw.2.1 hw.2.2.2.1 hw.2.2.1 F'.2.2.2.2.2.2.2.2.2⟩ rfl ?_ (lLc_sz hl) (by rw [List.reverse_reverse]) (lv_room (by rw [tsr_cat hs2]; exact hst)) hd ⟨by show _ ≤ 601219; omega, by show _ ≤ 7292413; omega⟩) hc hsl kk
  rw [List.length_reverse, tsr_len hx, List.length_reverse]; exact hn
theorem vx_va {R : Room} {args : Array Value} {H : Heap} {locs : List Loc} {cells slots mc ms : Nat} {g : JFrame} {rest : List Value} {Qa : State → Outcome → State → Prop} {free : Addr → Prop} (hr : vx_Run p l e R s m args below meth c H locs cells slots mc ms g rest Qa (fun _ _ _ => False) free) : va_Run p l e R s m args below meth c H locs cells slots mc ms g rest Qa free := by
  intro T hT X
  rcases hr T hT X with h | ⟨q, st₀, t, T', L1, E, ce, h0, X', hL, e1, e2, hx, -⟩
  · exact h
  · exact hx.elim
theorem lt_callH (C : LC p l s m meth c b L xs) {idx F L2 mc ms n np : Nat} {y : MethodName} {b2 : ByteArray} {r : Option FieldType} {hh : List (Nat × Nat × Nat × Nat)} {as : List tV} {Qc : Option tV → List tC → Prop} (hd : decode cL_law pc = .ok (.invokestatic idx, 3)) (h1 : Cond.methodLink RL idx y ∈ lw_good) (h2 : Cond.codeWith y b2 n r hh ∈ lw_good) (h3 : Cond.static y ∈ lw_good) (h4 : Cond.initialized y.cls ∈ lw_good) (h5 : y.cls ≠ "java/lang/invoke/MethodHandle" ∧ y.cls ≠ "java/lang/invoke/VarHandle" ∧ (parseMethodDescriptor y.desc).map (fun d => d.parameters.length) = some np) (hn : as.length = np) (hF : F + 1 ≤ 11) (hL : 8 + (n + 11) + L2 ≤ 470) (hst : st.length ≤ 8)
    (hM : THc l D y b2 n r hh F L2 mc ms as h Qc) (kk : ∀ rv h', Qc rv h' → LT p l e s m below meth c b D kc ks (pc + 3) loc (rv.toList ++ st) h') : LT p l e s m below meth c b D (mc + kc) (ms + ks) pc loc (as.reverse ++ st) h := by
  intro H locs cells slots ls sv ws tys hw hl hs hc hsl
  obtain ⟨x, rest, rfl, hx, hs2⟩ := tsr_app hs
  have hx' := tsr_rev hx
  rw [List.reverse_reverse] at hx'
  have hMet := hM ws tys H.size x.reverse hw.1 hx'
  have F' := C.1
  have hg := F'.2.2.2.2.1
  have hG : GoodIn lw_good (va_wsS RL idx y (tWSH y b2 n r hh)) := by
    intro w hw
    have hw' : w ∈ lw_good := by
      rcases List.mem_append.mp hw with z | z
      · rcases List.mem_cons.mp z with rfl | z
        · exact h1
        rcases List.mem_cons.mp z with rfl | z
        · exact h3
        rcases List.mem_cons.mp z with rfl | z
        · exact h4
        cases z
      · rcases List.mem_cons.mp z with rfl | z
        · exact h2
        exact z
    exact ⟨hw', lw_good_ok hw'⟩
  have hlen : x.reverse.length = np := by rw [List.length_reverse, tsr_len hx, List.length_reverse]; exact hn
  exact lt_after C hw hl hs2 (vx_va (vx_runSX (As := x.reverse) (hh := hh) (bytes := b2) (maxL := n) (ret := r) (n := np) (index := idx) ⟨F'.1, F'.2.1, F'.2.2.1, F'.2.2.2.1, F'.2.2.2.2.1⟩ hMet (vx_cwSW np hg hG rfl rfl rfl h5 ⟨hF, hL⟩) ⟨tPcX_blind, tPcX_at hw.2.1 hw.2.2.2.1 hw.2.2.1 F'.2.2.2.2.2.2.2.2.2 C.2.2.2.2.2.1 C.2.2.2.2.2.2.1 hw.2.2.2.2 F'.2.2.2.2.2.1⟩ rfl hlen (lLc_sz hl) (by rw [List.reverse_reverse]) (lv_room (by rw [tsr_cat hs2]; exact hst)) hd ⟨by show _ ≤ 601219; omega, by show _ ≤ 7292413; omega⟩)) hc hsl kk
theorem lt_new (C : LC p l s m meth c b L xs) {idx ci N : Nat} {Cn : String} {T : u_T} {tfs : List tV} {fsV : List Value} (hd : decode cL_law pc = .ok (.new idx, 3)) (hcl : tCl ci Cn T N) (h1 : Cond.classLink RL idx Cn ∈ lw_good) (h2 : Cond.instantiable Cn N ∈ lw_good) (h3 : Cond.initialized Cn ∈ lw_good) (hfs : ∀ j, j < N → ∀ ty, parseFieldDescriptor (T j).2.2.1 = some ty → defaultValue ty = vp_V fsV j) (hz : ∀ as, tsr as tfs fsV)
    (kk : LT p l e s m below meth c b D kc ks (pc + 3) loc (.inr (some h.length) :: st) (h ++ [.inr (.inr (ci, tfs))])) : LT p l e s m below meth c b D (kc + 1) (ks + N) pc loc st h := by
  intro H locs cells slots ls sv ws tys hw hl hs hc hsl
  obtain ⟨hC, hin, ⟨ty0, hty⟩, hnm⟩ := hcl
  have F := C.1
  refine va_new (ci := ci) (fs := fsV) F.1 F.2.1 F.2.2.2.2.1 hin ty0 hty F.2.2.2.1 (F.2.2.2.2.1 _ h1) (F.2.2.2.2.1 _ h2) (F.2.2.2.2.1 _ h3) hw.2.2.2.1 hw.2.1 hw.2.2.1 hw.2.2.2.2 F.2.2.2.2.2.1 hC (fun j hj => hfs j hj _ (hty j hj)) (by show _ ≤ 601219; omega) (by show _ ≤ 7292413; omega) hd ?_
  intro q H1 hP hD hS
  have hp := tPre_add ws (q, .inr (ci, fsV))
  exact kk H1 locs (cells + 1) (slots + N) ls _ _ tys ⟨hw.1.add (c := .inr (.inr (ci, tfs))) ⟨[], by simp⟩ ⟨fsV, rfl, hz _⟩, hP, hD, hw.2.2.2.1, hS⟩ (lLc_mono hp hl) ⟨_, _, rfl, tlast ws (q, .inr (ci, fsV)) hw.1.1, tsr_mono hp hs⟩ (by omega) (by omega)
theorem lt_newl (C : LC p l s m meth c b L xs) {n : Int32} (hd : decode cL_law pc = .ok (.newarray .long, 2)) (hn : n.toInt = 1) (kk : LT p l e s m below meth c b D kc ks (pc + 2) loc (.inr (some h.length) :: st) (h ++ [.inl (9, [0])])) : LT p l e s m below meth c b D (kc + 1) (ks + 1) pc loc (.inl n :: st) h := by
  intro H locs cells slots ls sv ws tys hw hl hs hc hsl
  obtain ⟨w1, s1, e1, r1, hs⟩ := hs
  have r1 : w1 = .int n := r1
  subst e1; subst r1
  have F := C.1
  refine va_newa (atype := .long) (a0 := (1, .inr (.inl (fun _ => 0)))) (N' := 1) (ty := .long) F.1 F.2.1 (F.2.2.2.2.1 _ ka_long) rfl hw.2.2.2.1 hw.2.1 hw.2.2.1 hw.2.2.2.2 F.2.2.2.2.2.1 (fun cA => rfl) (i_nn (by omega)) (i_ix (by omega)) (by decide) (by show _ ≤ 601219; omega) (by show _ ≤ 7292413; omega) hd ?_
  intro q cA H1 hK hP hD hS
  have hp := tPre_add ws (q, .inl (cA, 1, .inr (.inl (fun _ => 0))))
  exact kk H1 locs (cells + 1) (slots + 1) ls _ _ _ ⟨hw.1.add (c := .inl (9, [0])) ⟨_, rfl⟩ ⟨cA, tys.length, Or.inr ⟨rfl, _, rfl, (fun j x hj => by
    match j, hj with
    | 0, hj => cases hj; rfl
    | n + 1, hj => simp at hj), by simp⟩⟩, hP, hD, hK, hS⟩ (lLc_mono hp hl) ⟨_, _, rfl, tlast ws _ hw.1.1, tsr_mono hp hs⟩ (by omega) (by omega)
end LTR
/-! cell(script, 0) -/
def cv (L : Nat) (xs : Nat → Int32) : Int32 := if 0 < L then xs 0 else 0
theorem cell_met (l : Launch) (b L : Nat) (xs : Nat → Int32) (hL : L ≤ 2561) {z : Int32} (hz : z.toInt = 0) : Met l yL_cell (tWS yL_cell cL_cell 2 (some .int)) (tRm 0 0 0 0) (fun a U => a = ([Value.ref b, .int z] : List Value).toArray ∧ va_X b L xs U U.heap) (fun _ st oc t => oc = .returned (some (.int (cv L xs))) ∧ t.heap = st.heap) 0 0 (fun _ => False) := by
  refine Met.ofW (cc := cL_cell) (maxL := 2) (ret := some .int) rfl rfl ?_
  intro p e s m args below meth c s₁ B hml hv
  obtain ⟨rfl, hX⟩ := hv
  have hl := lv_entry ([Value.ref b, .int z] : List Value) (n := 2) (Nat.le_of_ble_eq_true rfl)
  rw [lg_entry_eq]
  generalize (lg_sl ([Value.ref b, .int z] : List Value) ++ List.replicate (2 - (lg_sl ([Value.ref b, .int z] : List Value)).length) Slot.unset).toArray = ls at hl ⊢
  have hl : lv_has ls 2 [(0, .ref b), (1, .int z)] := hl
  have hb := B.bytes
  have hbl : b < s.heap.size := by obtain ⟨scr, h1, -⟩ := hX; exact (Array.getElem?_eq_some_iff.mp h1).1
  have hS : va_S (fun _ => False) s.heap s.heap [] := va_S.rf
  have e0 : (Int32.ofNat L).toInt = (L : Int) := Int32.toInt_ofNat_of_lt (by omega)
  have ix : z.toNatClampNeg = 0 := i_ix hz
  refine lv_iload_n (pc := 0) B.exec hb dL_cell_0 rfl (lv_at hl 1 rfl) ?_
  refine lv_aload_n (pc := 1) B.exec hb dL_cell_1 rfl (lv_at hl 0 rfl) ?_
  refine va_slen (pc := 2) B.exec hb hX hbl (fun z => z) hS dL_cell_2 ?_
  refine lv_icmp_ge (pc := 3) (tgt := 12) B.exec hb dL_cell_3 (by decide) (fun c1 => ?_) (fun c1 => ?_)
  · have h0 : ¬ 0 < L := fun y => by
      have := Int32.le_iff_toInt_le.mp c1
      omega
    refine lv_iconst (pc := 12) (v := 0) B.exec hb dL_cell_12 (by decide) ?_
    refine W.iret (pc := 13) B.exec hb B.returns (fun t ht _ => ⟨?_, ht⟩) (fun q hq => nomatch hq) dL_cell_13
    unfold cv
    rw [if_neg h0]
  · have h0 : 0 < L := by
      apply Nat.pos_of_ne_zero
      intro y
      apply c1
      apply Int32.le_iff_toInt_le.mpr
      omega
    refine lv_aload_n (pc := 6) B.exec hb dL_cell_6 rfl (lv_at hl 0 rfl) ?_
    refine lv_iload_n (pc := 7) B.exec hb dL_cell_7 rfl (lv_at hl 1 rfl) ?_
    refine va_sld (pc := 8) B.exec hb hX hbl (fun z => z) hS (t_in (i_nn (by omega)) (by rw [ix]; exact h0)) dL_cell_8 ?_
    refine lv_goto (pc := 9) (tgt := 13) B.exec hb dL_cell_9 (by decide) ?_
    refine W.iret (pc := 13) B.exec hb B.returns (fun t ht _ => ⟨?_, ht⟩) (fun q hq => nomatch hq) dL_cell_13
    unfold cv
    rw [if_pos h0, ix]
section LTC
variable {p : Program} {l : Launch} {e : Env} {s : State} {m : MethodId} {below : List Frame} {meth : Method} {c : Code} {b L : Nat} {xs : Nat → Int32} {D : va_G} {kc ks pc : Nat} {loc : tL} {st : List tV} {h : List tC}
theorem lt_cell (C : LC p l s m meth c b L xs) (d0 : decode cL_law pc = .ok (.aload_n 0, 1)) (d1 : decode cL_law (pc + 1) = .ok (.iconst 0, 1)) (d2 : decode cL_law (pc + 1 + 1) = .ok (.invokestatic 41, 3)) (hst : st.length ≤ 8) (k : LT p l e s m below meth c b D kc ks (pc + 1 + 1 + 3) loc (.inl (cv L xs) :: st) h) : LT p l e s m below meth c b D kc ks pc loc st h := by
  intro H locs cells slots ls sv ws tys hw hl hs hc hsl
  have F := C.1
  refine lv_aload_n F.1 F.2.1 d0 rfl (lLc_0 hl) (lv_iconst (v := 0) F.1 F.2.1 d1 (by decide) ?_)
  have hX : va_X b L xs s H := C.2.1.kept (hw.2.2.2.2.2.1 b C.2.2.1 (Nat.not_le.mpr C.2.2.1))
  have hr := va_runS (p := p) (e := e) (below := below) (meth := meth) (locs := locs) (cells := cells) (slots := slots) (g := F0 m (pc + 1 + 1) ls (.int 0 :: .ref b :: sv)) (rest := sv) (As := [.ref b, .int 0]) (index := 41) (n := 2) (R := room_1) (H := H) ⟨F.1, F.2.1, F.2.2.1, F.2.2.2.1, F.2.2.2.2.1⟩ (cell_met l b L xs C.2.2.2.2.2.2.2 (z := 0) (by decide)) ⟨tLk_B lkL_41 F.2.2.2.2.1 (by decide) (by decide), F.2.2.2.2.1 _ smL_cell⟩ ⟨fun a U g mk q => ⟨q.1, va_X.moved (u := U) (U := U.calling g mk a) (Vm.Alike.refl U.vm) q.2⟩, fun U hU hW => ⟨rfl, by rw [hU]; exact va_X.moved hW.alike hX⟩⟩ rfl rfl (lLc_sz hl) rfl (lv_room (by rw [tsr_cat hs]; exact hst)) d2 ⟨by show _ ≤ 601219; omega, by show _ ≤ 7292413; omega⟩
  intro T hT X
  obtain ⟨v, st₀, t, T', L1, h0, X', hL, e1, e2, ⟨hv, ht⟩, stp⟩ := hr T hT X
  cases hv
  have hL1 : L1 = [] := by
    cases L1 with
    | nil => rfl
    | cons a r => exact (hL a List.mem_cons_self).elim
  subst hL1
  rw [List.append_nil] at X'
  have hH : T'.heap = H := by rw [e1, ht, h0]
  obtain ⟨t2, a1, b1⟩ := k H locs (cells + 0) (slots + 0) ls _ ws tys hw hl ⟨_, _, rfl, rfl, hs⟩ (by omega) (by omega) T' hH X'
  exact ⟨t2, stp t2 a1, b1⟩
end LTC
section LTO
variable {p : Program} {l : Launch} {e : Env} {s : State} {m : MethodId} {below : List Frame} {meth : Method} {c : Code} {b L : Nat} {xs : Nat → Int32} {D : va_G} {kc ks pc : Nat} {loc : tL} {st : List tV} {h : List tC}
/-- what the long row holds is what the reference answered -/
theorem lt_out (C : LC p l s m meth c b L xs) {k x : Int32} {ko : Nat} (h5 : (5, Sum.inl k) ∈ loc) (h6 : (6, Sum.inl x) ∈ loc) (h3 : (3, Sum.inr (some ko)) ∈ loc) (hk : k.toInt = 0 → h[ko]? = some (.inl (9, [x]))) (kk : LT p l e s m below meth c b D kc ks 464 loc st h) : LT p l e s m below meth c b D kc ks 447 loc st h := by
  intro H locs cells slots ls sv ws tys hw hl hs hc hsl
  obtain ⟨w5, g5, r5⟩ := lLc_at hl h5
  obtain ⟨w6, g6, r6⟩ := lLc_at hl h6
  obtain ⟨w3, g3, r3⟩ := lLc_at hl h3
  have r5 : w5 = .int k := r5
  have r6 : w6 = .int x := r6
  subst r5; subst r6
  refine lv_iload (pc := 447) C.1.1 C.1.2.1 dL_law_447 g5 (lv_if_ne (pc := 449) (tgt := 464) C.1.1 C.1.2.1 dL_law_449 (by decide) (fun _ => kk H locs cells slots ls _ ws tys hw hl hs hc hsl) (fun z => ?_))
  have e9 := hk (by rw [z]; rfl)
  obtain ⟨q, cA, f, t0, q1, q2, q3, q4⟩ := tlong hw.1 e9 r3
  subst q1
  have ef : f 0 = x.toInt64 := q3 0 x rfl
  refine lv_aload_n (pc := 452) C.1.1 C.1.2.1 dL_law_452 rfl g3 (lv_iconst (pc := 453) (v := 0) C.1.1 C.1.2.1 dL_law_453 (by decide) (va_lald (pc := 454) C.1.1 C.1.2.1 hw.2.2.2.1 hw.2.1 ko t0 q2 q4 (t_in (by decide) (show Int32.toNatClampNeg 0 < 1 by decide)) dL_law_454 ?_))
  refine lv_iload (pc := 455) C.1.1 C.1.2.1 dL_law_455 g6 (lv_i2l (pc := 457) C.1.1 C.1.2.1 dL_law_457 rfl (W.lcmp (pc := 458) C.1.1 C.1.2.1 dL_law_458 (lv_if_eq (pc := 459) (tgt := 464) C.1.1 C.1.2.1 dL_law_459 (by decide) (fun _ => kk H locs cells slots ls _ ws tys hw hl hs hc hsl) (fun z9 => ?_))))
  exfalso
  apply z9
  show lg_cmp (f 0) x.toInt64 = 0
  rw [ef]
  simp [lg_cmp]
end LTO
