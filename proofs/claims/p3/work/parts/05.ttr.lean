section TTR
variable {l : Launch} {D : va_G} {M : tM} {Q : Nat → tL → List tV → List tC → Prop} {kc ks pc : Nat} {loc : tL} {st : List tV} {h : List tC}
theorem tt_stop (hq : Q pc loc st h) : TT l D M Q kc ks pc loc st h := by
  intro p e R s m args below meth c A H0 QQ F H locs cells slots ls sv ws tys hw hl hs hc hsl K
  exact K pc loc st h H locs cells slots ls sv ws tys hq hw hl hs (tPre.rf _) (Nat.le_add_right _ _) (Nat.le_add_right _ _)
theorem tt_mono {Q' : Nat → tL → List tV → List tC → Prop} (hq : ∀ pc loc st h, Q pc loc st h → Q' pc loc st h) (k : TT l D M Q kc ks pc loc st h) : TT l D M Q' kc ks pc loc st h := by
  intro p e R s m args below meth c A H0 QQ F H locs cells slots ls sv ws tys hw hl hs hc hsl K
  exact k p e R s m args below meth c A H0 QQ F H locs cells slots ls sv ws tys hw hl hs hc hsl (fun a1 a2 a3 a4 a5 a6 a7 a8 a9 b1 b2 b3 h1 => K a1 a2 a3 a4 a5 a6 a7 a8 a9 b1 b2 b3 (hq _ _ _ _ h1))
theorem tt_less {kc' ks' : Nat} (h1 : kc' ≤ kc) (h2 : ks' ≤ ks) (k : TT l D M Q kc' ks' pc loc st h) : TT l D M Q kc ks pc loc st h := by
  intro p e R s m args below meth c A H0 QQ F H locs cells slots ls sv ws tys hw hl hs hc hsl K
  exact k p e R s m args below meth c A H0 QQ F H locs cells slots ls sv ws tys hw hl hs (by omega) (by omega) (fun a1 a2 a3 a4 a5 a6 a7 a8 a9 b1 b2 b3 q1 q2 q3 q4 q5 q6 q7 => K a1 a2 a3 a4 a5 a6 a7 a8 a9 b1 b2 b3 q1 q2 q3 q4 q5 (by omega) (by omega))
/-- one piece of a method behind another -/
theorem tt_seq {Q1 : Nat → tL → List tV → List tC → Prop} {kc2 ks2 : Nat} (k1 : TT l D M Q1 kc ks pc loc st h) (k2 : ∀ pc' loc' st' h', Q1 pc' loc' st' h' → TT l D M Q kc2 ks2 pc' loc' st' h') : TT l D M Q (kc + kc2) (ks + ks2) pc loc st h := by
  intro p e R s m args below meth c A H0 QQ F H locs cells slots ls sv ws tys hw hl hs hc hsl K
  refine k1 p e R s m args below meth c A H0 QQ F H locs cells slots ls sv ws tys hw hl hs (by omega) (by omega) ?_
  intro pc' loc' st' h' H' locs' cells' slots' ls' sv' ws' tys' hq hw' hl' hs' hp hc' hsl'
  refine k2 pc' loc' st' h' hq p e R s m args below meth c A H0 QQ F H' locs' cells' slots' ls' sv' ws' tys' hw' hl' hs' (by omega) (by omega) ?_
  intro a1 a2 a3 a4 a5 a6 a7 a8 a9 b1 b2 b3 q1 q2 q3 q4 q5 q6 q7
  exact K a1 a2 a3 a4 a5 a6 a7 a8 a9 b1 b2 b3 q1 q2 q3 q4 (hp.tr q5) (by omega) (by omega)

theorem tt_iconst {n : Int} (hd : decode M.2.1 pc = .ok (.iconst n, 1)) (k : TT l D M Q kc ks (pc + 1) loc (.inl (Int32.ofInt n) :: st) h) : TT l D M Q kc ks pc loc st h := by
  intro p e R s m args below meth c A H0 QQ F H locs cells slots ls sv ws tys hw hl hs hc hsl K
  exact lv_iconst F.1 F.2.1 hd rfl (k p e R s m args below meth c A H0 QQ F H locs cells slots ls _ ws tys hw hl ⟨_, _, rfl, rfl, hs⟩ hc hsl K)

theorem tt_bipush {n : Int} (hd : decode M.2.1 pc = .ok (.bipush n, 2)) (k : TT l D M Q kc ks (pc + 2) loc (.inl ((Int8.ofInt n).toInt32) :: st) h) : TT l D M Q kc ks pc loc st h := by
  intro p e R s m args below meth c A H0 QQ F H locs cells slots ls sv ws tys hw hl hs hc hsl K
  exact lv_bipush F.1 F.2.1 hd rfl (k p e R s m args below meth c A H0 QQ F H locs cells slots ls _ ws tys hw hl ⟨_, _, rfl, rfl, hs⟩ hc hsl K)

theorem tt_sipush {n : Int} (hd : decode M.2.1 pc = .ok (.sipush n, 3)) (k : TT l D M Q kc ks (pc + 3) loc (.inl ((Int16.ofInt n).toInt32) :: st) h) : TT l D M Q kc ks pc loc st h := by
  intro p e R s m args below meth c A H0 QQ F H locs cells slots ls sv ws tys hw hl hs hc hsl K
  exact lv_sipush F.1 F.2.1 hd rfl (k p e R s m args below meth c A H0 QQ F H locs cells slots ls _ ws tys hw hl ⟨_, _, rfl, rfl, hs⟩ hc hsl K)

theorem tt_iadd {x y : Int32} (hd : decode M.2.1 pc = .ok (.iadd, 1))  (k : TT l D M Q kc ks (pc + 1) loc (.inl (x + y) :: st) h) : TT l D M Q kc ks pc loc (.inl y :: .inl x :: st) h := by
  intro p e R s m args below meth c A H0 QQ F H locs cells slots ls sv ws tys hw hl hs hc hsl K
  obtain ⟨w1, s1, e1, r1, w2, s2, e2, r2, hs⟩ := hs
  have r1 : w1 = .int y := r1
  have r2 : w2 = .int x := r2
  subst e1; subst e2; subst r1; subst r2
  exact lv_iadd F.1 F.2.1 hd (k p e R s m args below meth c A H0 QQ F H locs cells slots ls _ ws tys hw hl ⟨_, _, rfl, rfl, hs⟩ hc hsl K)

theorem tt_isub {x y : Int32} (hd : decode M.2.1 pc = .ok (.isub, 1))  (k : TT l D M Q kc ks (pc + 1) loc (.inl (x - y) :: st) h) : TT l D M Q kc ks pc loc (.inl y :: .inl x :: st) h := by
  intro p e R s m args below meth c A H0 QQ F H locs cells slots ls sv ws tys hw hl hs hc hsl K
  obtain ⟨w1, s1, e1, r1, w2, s2, e2, r2, hs⟩ := hs
  have r1 : w1 = .int y := r1
  have r2 : w2 = .int x := r2
  subst e1; subst e2; subst r1; subst r2
  exact lv_isub F.1 F.2.1 hd (k p e R s m args below meth c A H0 QQ F H locs cells slots ls _ ws tys hw hl ⟨_, _, rfl, rfl, hs⟩ hc hsl K)

theorem tt_imul {x y : Int32} (hd : decode M.2.1 pc = .ok (.imul, 1))  (k : TT l D M Q kc ks (pc + 1) loc (.inl (x * y) :: st) h) : TT l D M Q kc ks pc loc (.inl y :: .inl x :: st) h := by
  intro p e R s m args below meth c A H0 QQ F H locs cells slots ls sv ws tys hw hl hs hc hsl K
  obtain ⟨w1, s1, e1, r1, w2, s2, e2, r2, hs⟩ := hs
  have r1 : w1 = .int y := r1
  have r2 : w2 = .int x := r2
  subst e1; subst e2; subst r1; subst r2
  exact lv_imul F.1 F.2.1 hd (k p e R s m args below meth c A H0 QQ F H locs cells slots ls _ ws tys hw hl ⟨_, _, rfl, rfl, hs⟩ hc hsl K)

theorem tt_iand {x y : Int32} (hd : decode M.2.1 pc = .ok (.iand, 1))  (k : TT l D M Q kc ks (pc + 1) loc (.inl (x &&& y) :: st) h) : TT l D M Q kc ks pc loc (.inl y :: .inl x :: st) h := by
  intro p e R s m args below meth c A H0 QQ F H locs cells slots ls sv ws tys hw hl hs hc hsl K
  obtain ⟨w1, s1, e1, r1, w2, s2, e2, r2, hs⟩ := hs
  have r1 : w1 = .int y := r1
  have r2 : w2 = .int x := r2
  subst e1; subst e2; subst r1; subst r2
  exact lv_iand F.1 F.2.1 hd (k p e R s m args below meth c A H0 QQ F H locs cells slots ls _ ws tys hw hl ⟨_, _, rfl, rfl, hs⟩ hc hsl K)

theorem tt_ior {x y : Int32} (hd : decode M.2.1 pc = .ok (.ior, 1))  (k : TT l D M Q kc ks (pc + 1) loc (.inl (x ||| y) :: st) h) : TT l D M Q kc ks pc loc (.inl y :: .inl x :: st) h := by
  intro p e R s m args below meth c A H0 QQ F H locs cells slots ls sv ws tys hw hl hs hc hsl K
  obtain ⟨w1, s1, e1, r1, w2, s2, e2, r2, hs⟩ := hs
  have r1 : w1 = .int y := r1
  have r2 : w2 = .int x := r2
  subst e1; subst e2; subst r1; subst r2
  exact lv_ior F.1 F.2.1 hd (k p e R s m args below meth c A H0 QQ F H locs cells slots ls _ ws tys hw hl ⟨_, _, rfl, rfl, hs⟩ hc hsl K)

theorem tt_ixor {x y : Int32} (hd : decode M.2.1 pc = .ok (.ixor, 1))  (k : TT l D M Q kc ks (pc + 1) loc (.inl (x ^^^ y) :: st) h) : TT l D M Q kc ks pc loc (.inl y :: .inl x :: st) h := by
  intro p e R s m args below meth c A H0 QQ F H locs cells slots ls sv ws tys hw hl hs hc hsl K
  obtain ⟨w1, s1, e1, r1, w2, s2, e2, r2, hs⟩ := hs
  have r1 : w1 = .int y := r1
  have r2 : w2 = .int x := r2
  subst e1; subst e2; subst r1; subst r2
  exact lv_ixor F.1 F.2.1 hd (k p e R s m args below meth c A H0 QQ F H locs cells slots ls _ ws tys hw hl ⟨_, _, rfl, rfl, hs⟩ hc hsl K)

theorem tt_idiv {x y : Int32} (hd : decode M.2.1 pc = .ok (.idiv, 1)) (hne : ¬ y = 0) (k : TT l D M Q kc ks (pc + 1) loc (.inl (x / y) :: st) h) : TT l D M Q kc ks pc loc (.inl y :: .inl x :: st) h := by
  intro p e R s m args below meth c A H0 QQ F H locs cells slots ls sv ws tys hw hl hs hc hsl K
  obtain ⟨w1, s1, e1, r1, w2, s2, e2, r2, hs⟩ := hs
  have r1 : w1 = .int y := r1
  have r2 : w2 = .int x := r2
  subst e1; subst e2; subst r1; subst r2
  exact lv_idiv F.1 F.2.1 hd hne (k p e R s m args below meth c A H0 QQ F H locs cells slots ls _ ws tys hw hl ⟨_, _, rfl, rfl, hs⟩ hc hsl K)

theorem tt_irem {x y : Int32} (hd : decode M.2.1 pc = .ok (.irem, 1)) (hne : ¬ y = 0) (k : TT l D M Q kc ks (pc + 1) loc (.inl (x - x / y * y) :: st) h) : TT l D M Q kc ks pc loc (.inl y :: .inl x :: st) h := by
  intro p e R s m args below meth c A H0 QQ F H locs cells slots ls sv ws tys hw hl hs hc hsl K
  obtain ⟨w1, s1, e1, r1, w2, s2, e2, r2, hs⟩ := hs
  have r1 : w1 = .int y := r1
  have r2 : w2 = .int x := r2
  subst e1; subst e2; subst r1; subst r2
  exact lv_irem F.1 F.2.1 hd hne (k p e R s m args below meth c A H0 QQ F H locs cells slots ls _ ws tys hw hl ⟨_, _, rfl, rfl, hs⟩ hc hsl K)

theorem tt_ishl {x y : Int32} (hd : decode M.2.1 pc = .ok (.ishl, 1))  (k : TT l D M Q kc ks (pc + 1) loc (.inl (x <<< (y &&& 31)) :: st) h) : TT l D M Q kc ks pc loc (.inl y :: .inl x :: st) h := by
  intro p e R s m args below meth c A H0 QQ F H locs cells slots ls sv ws tys hw hl hs hc hsl K
  obtain ⟨w1, s1, e1, r1, w2, s2, e2, r2, hs⟩ := hs
  have r1 : w1 = .int y := r1
  have r2 : w2 = .int x := r2
  subst e1; subst e2; subst r1; subst r2
  exact lv_ishl F.1 F.2.1 hd (k p e R s m args below meth c A H0 QQ F H locs cells slots ls _ ws tys hw hl ⟨_, _, rfl, rfl, hs⟩ hc hsl K)

theorem tt_ishr {x y : Int32} (hd : decode M.2.1 pc = .ok (.ishr, 1))  (k : TT l D M Q kc ks (pc + 1) loc (.inl (x >>> (y &&& 31)) :: st) h) : TT l D M Q kc ks pc loc (.inl y :: .inl x :: st) h := by
  intro p e R s m args below meth c A H0 QQ F H locs cells slots ls sv ws tys hw hl hs hc hsl K
  obtain ⟨w1, s1, e1, r1, w2, s2, e2, r2, hs⟩ := hs
  have r1 : w1 = .int y := r1
  have r2 : w2 = .int x := r2
  subst e1; subst e2; subst r1; subst r2
  exact lv_ishr F.1 F.2.1 hd (k p e R s m args below meth c A H0 QQ F H locs cells slots ls _ ws tys hw hl ⟨_, _, rfl, rfl, hs⟩ hc hsl K)

theorem tt_pop {v : tV} (hd : decode M.2.1 pc = .ok (.pop, 1)) (k : TT l D M Q kc ks (pc + 1) loc st h) : TT l D M Q kc ks pc loc (v :: st) h := by
  intro p e R s m args below meth c A H0 QQ F H locs cells slots ls sv ws tys hw hl hs hc hsl K
  obtain ⟨w1, s1, e1, r1, hs⟩ := hs
  subst e1
  exact lv_pop F.1 F.2.1 hd (tvr_cat r1) (k p e R s m args below meth c A H0 QQ F H locs cells slots ls _ ws tys hw hl hs hc hsl K)

theorem tt_dup {v : tV} (hd : decode M.2.1 pc = .ok (.dup, 1)) (k : TT l D M Q kc ks (pc + 1) loc (v :: v :: st) h) : TT l D M Q kc ks pc loc (v :: st) h := by
  intro p e R s m args below meth c A H0 QQ F H locs cells slots ls sv ws tys hw hl hs hc hsl K
  obtain ⟨w1, s1, e1, r1, hs⟩ := hs
  subst e1
  exact lv_dup F.1 F.2.1 hd (tvr_cat r1) (k p e R s m args below meth c A H0 QQ F H locs cells slots ls _ ws tys hw hl ⟨_, _, rfl, r1, _, _, rfl, r1, hs⟩ hc hsl K)

theorem tt_dup2 {v u : tV} (hd : decode M.2.1 pc = .ok (.dup2, 1)) (k : TT l D M Q kc ks (pc + 1) loc (v :: u :: v :: u :: st) h) : TT l D M Q kc ks pc loc (v :: u :: st) h := by
  intro p e R s m args below meth c A H0 QQ F H locs cells slots ls sv ws tys hw hl hs hc hsl K
  obtain ⟨w1, s1, e1, r1, w2, s2, e2, r2, hs⟩ := hs
  subst e1; subst e2
  exact lv_dup2_11 F.1 F.2.1 hd (tvr_cat r1) (tvr_cat r2) (k p e R s m args below meth c A H0 QQ F H locs cells slots ls _ ws tys hw hl ⟨_, _, rfl, r1, _, _, rfl, r2, _, _, rfl, r1, _, _, rfl, r2, hs⟩ hc hsl K)

theorem tt_null (hd : decode M.2.1 pc = .ok (.aconst_null, 1)) (k : TT l D M Q kc ks (pc + 1) loc (.inr none :: st) h) : TT l D M Q kc ks pc loc st h := by
  intro p e R s m args below meth c A H0 QQ F H locs cells slots ls sv ws tys hw hl hs hc hsl K
  exact lv_null F.1 F.2.1 hd (k p e R s m args below meth c A H0 QQ F H locs cells slots ls _ ws tys hw hl ⟨_, _, rfl, rfl, hs⟩ hc hsl K)

theorem tt_goto {off : Int} {tgt : Nat} (hd : decode M.2.1 pc = .ok (.goto off, 3)) (ht : (pc : Int) + off = (tgt : Int)) (k : TT l D M Q kc ks tgt loc st h) : TT l D M Q kc ks pc loc st h := by
  intro p e R s m args below meth c A H0 QQ F H locs cells slots ls sv ws tys hw hl hs hc hsl K
  exact lv_goto F.1 F.2.1 hd ht (k p e R s m args below meth c A H0 QQ F H locs cells slots ls _ ws tys hw hl hs hc hsl K)

theorem tt_iload_n {k0 : Fin 4} {x : Int32} (hd : decode M.2.1 pc = .ok (.iload_n k0, 1)) (hm : ((k0 : Nat), Sum.inl x) ∈ loc) (k : TT l D M Q kc ks (pc + 1) loc (.inl x :: st) h) : TT l D M Q kc ks pc loc st h := by
  intro p e R s m args below meth c A H0 QQ F H locs cells slots ls sv ws tys hw hl hs hc hsl K
  obtain ⟨w, h1, h2⟩ := tLc_at hl hm
  have h2 : w = .int x := h2
  subst h2
  exact lv_iload_n F.1 F.2.1 hd rfl h1 (k p e R s m args below meth c A H0 QQ F H locs cells slots ls _ ws tys hw hl ⟨_, _, rfl, rfl, hs⟩ hc hsl K)

theorem tt_iload {i : Nat} {x : Int32} (hd : decode M.2.1 pc = .ok (.iload i, 2)) (hm : (i, Sum.inl x) ∈ loc) (k : TT l D M Q kc ks (pc + 2) loc (.inl x :: st) h) : TT l D M Q kc ks pc loc st h := by
  intro p e R s m args below meth c A H0 QQ F H locs cells slots ls sv ws tys hw hl hs hc hsl K
  obtain ⟨w, h1, h2⟩ := tLc_at hl hm
  have h2 : w = .int x := h2
  subst h2
  exact lv_iload F.1 F.2.1 hd h1 (k p e R s m args below meth c A H0 QQ F H locs cells slots ls _ ws tys hw hl ⟨_, _, rfl, rfl, hs⟩ hc hsl K)

theorem tt_aload_n {k0 : Fin 4} {r : Option Nat} (hd : decode M.2.1 pc = .ok (.aload_n k0, 1)) (hm : ((k0 : Nat), Sum.inr r) ∈ loc) (k : TT l D M Q kc ks (pc + 1) loc (.inr r :: st) h) : TT l D M Q kc ks pc loc st h := by
  intro p e R s m args below meth c A H0 QQ F H locs cells slots ls sv ws tys hw hl hs hc hsl K
  obtain ⟨w, h1, h2⟩ := tLc_at hl hm
  cases r with
  | none =>
    have h3 : w = .null := h2
    subst h3
    exact lv_aload_nN F.1 F.2.1 hd rfl h1 (k p e R s m args below meth c A H0 QQ F H locs cells slots ls _ ws tys hw hl ⟨_, _, rfl, h2, hs⟩ hc hsl K)
  | some q =>
    obtain ⟨a, h3, h4⟩ := h2
    subst h4
    exact lv_aload_n F.1 F.2.1 hd rfl h1 (k p e R s m args below meth c A H0 QQ F H locs cells slots ls _ ws tys hw hl ⟨_, _, rfl, ⟨a, h3, rfl⟩, hs⟩ hc hsl K)

theorem tt_aload {i : Nat} {r : Option Nat} (hd : decode M.2.1 pc = .ok (.aload i, 2)) (hm : (i, Sum.inr r) ∈ loc) (k : TT l D M Q kc ks (pc + 2) loc (.inr r :: st) h) : TT l D M Q kc ks pc loc st h := by
  intro p e R s m args below meth c A H0 QQ F H locs cells slots ls sv ws tys hw hl hs hc hsl K
  obtain ⟨w, h1, h2⟩ := tLc_at hl hm
  cases r with
  | none =>
    have h3 : w = .null := h2
    subst h3
    exact lv_aloadN F.1 F.2.1 hd h1 (k p e R s m args below meth c A H0 QQ F H locs cells slots ls _ ws tys hw hl ⟨_, _, rfl, h2, hs⟩ hc hsl K)
  | some q =>
    obtain ⟨a, h3, h4⟩ := h2
    subst h4
    exact lv_aload F.1 F.2.1 hd h1 (k p e R s m args below meth c A H0 QQ F H locs cells slots ls _ ws tys hw hl ⟨_, _, rfl, ⟨a, h3, rfl⟩, hs⟩ hc hsl K)

theorem tt_istore_n {k0 : Fin 4} {x : Int32} (hd : decode M.2.1 pc = .ok (.istore_n k0, 1)) (hn : (k0 : Nat) < M.2.2.1) (k : TT l D M Q kc ks (pc + 1) (tSt loc (k0 : Nat) (.inl x)) st h) : TT l D M Q kc ks pc loc (.inl x :: st) h := by
  intro p e R s m args below meth c A H0 QQ F H locs cells slots ls sv ws tys hw hl hs hc hsl K
  obtain ⟨w1, s1, e1, r1, hs⟩ := hs
  have r1 : w1 = .int x := r1
  subst e1; subst r1
  obtain ⟨lv, hl1, hl2⟩ := hl
  have r0 : tvr (ws.map Prod.fst) (.inl x) (.int x) := rfl
  exact lv_istore_n F.1 F.2.1 hd rfl hl1 hn rfl (fun ls' hl' => k p e R s m args below meth c A H0 QQ F H locs cells slots ls' _ ws tys hw ⟨_, hl', tLc_st hl2 r0⟩ hs hc hsl K)

theorem tt_istore {i : Nat} {x : Int32} (hd : decode M.2.1 pc = .ok (.istore i, 2)) (hn : i < M.2.2.1) (k : TT l D M Q kc ks (pc + 2) (tSt loc i (.inl x)) st h) : TT l D M Q kc ks pc loc (.inl x :: st) h := by
  intro p e R s m args below meth c A H0 QQ F H locs cells slots ls sv ws tys hw hl hs hc hsl K
  obtain ⟨w1, s1, e1, r1, hs⟩ := hs
  have r1 : w1 = .int x := r1
  subst e1; subst r1
  obtain ⟨lv, hl1, hl2⟩ := hl
  have r0 : tvr (ws.map Prod.fst) (.inl x) (.int x) := rfl
  exact lv_istore F.1 F.2.1 hd hl1 hn rfl (fun ls' hl' => k p e R s m args below meth c A H0 QQ F H locs cells slots ls' _ ws tys hw ⟨_, hl', tLc_st hl2 r0⟩ hs hc hsl K)

theorem tt_astore_n {k0 : Fin 4} {r : Option Nat} (hd : decode M.2.1 pc = .ok (.astore_n k0, 1)) (hn : (k0 : Nat) < M.2.2.1) (k : TT l D M Q kc ks (pc + 1) (tSt loc (k0 : Nat) (.inr r)) st h) : TT l D M Q kc ks pc loc (.inr r :: st) h := by
  intro p e R s m args below meth c A H0 QQ F H locs cells slots ls sv ws tys hw hl hs hc hsl K
  obtain ⟨w1, s1, e1, r1, hs⟩ := hs
  subst e1
  obtain ⟨lv, hl1, hl2⟩ := hl
  have r0 := r1
  cases r with
  | none =>
    have h3 : w1 = .null := r1
    subst h3
    exact lv_astore_nN F.1 F.2.1 hd rfl hl1 hn rfl (fun ls' hl' => k p e R s m args below meth c A H0 QQ F H locs cells slots ls' _ ws tys hw ⟨_, hl', tLc_st hl2 r0⟩ hs hc hsl K)
  | some q =>
    obtain ⟨a, h3, h4⟩ := r1
    subst h4
    exact lv_astore_n F.1 F.2.1 hd rfl hl1 hn rfl (fun ls' hl' => k p e R s m args below meth c A H0 QQ F H locs cells slots ls' _ ws tys hw ⟨_, hl', tLc_st hl2 r0⟩ hs hc hsl K)

theorem tt_astore {i : Nat} {r : Option Nat} (hd : decode M.2.1 pc = .ok (.astore i, 2)) (hn : i < M.2.2.1) (k : TT l D M Q kc ks (pc + 2) (tSt loc i (.inr r)) st h) : TT l D M Q kc ks pc loc (.inr r :: st) h := by
  intro p e R s m args below meth c A H0 QQ F H locs cells slots ls sv ws tys hw hl hs hc hsl K
  obtain ⟨w1, s1, e1, r1, hs⟩ := hs
  subst e1
  obtain ⟨lv, hl1, hl2⟩ := hl
  have r0 := r1
  cases r with
  | none =>
    have h3 : w1 = .null := r1
    subst h3
    exact lv_astoreN F.1 F.2.1 hd hl1 hn rfl (fun ls' hl' => k p e R s m args below meth c A H0 QQ F H locs cells slots ls' _ ws tys hw ⟨_, hl', tLc_st hl2 r0⟩ hs hc hsl K)
  | some q =>
    obtain ⟨a, h3, h4⟩ := r1
    subst h4
    exact lv_astore F.1 F.2.1 hd hl1 hn rfl (fun ls' hl' => k p e R s m args below meth c A H0 QQ F H locs cells slots ls' _ ws tys hw ⟨_, hl', tLc_st hl2 r0⟩ hs hc hsl K)

theorem tt_iinc {i : Nat} {n : Int} {x : Int32} (hd : decode M.2.1 pc = .ok (.iinc i n, 3)) (hm : (i, Sum.inl x) ∈ loc) (hn : i < M.2.2.1) (k : TT l D M Q kc ks (pc + 3) (tSt loc i (.inl (x + Int32.ofInt n))) st h) : TT l D M Q kc ks pc loc st h := by
  intro p e R s m args below meth c A H0 QQ F H locs cells slots ls sv ws tys hw hl hs hc hsl K
  obtain ⟨lv, hl1, hl2⟩ := hl
  obtain ⟨w, h1, h2⟩ := hl2 _ hm
  have h2 : w = .int x := h2
  subst h2
  obtain ⟨j, hj⟩ := List.getElem?_of_mem h1
  have r0 : tvr (ws.map Prod.fst) (.inl (x + Int32.ofInt n)) (.int (x + Int32.ofInt n)) := rfl
  exact lv_iinc F.1 F.2.1 hd hl1 hj rfl hn rfl (fun ls' hl' => k p e R s m args below meth c A H0 QQ F H locs cells slots ls' _ ws tys hw ⟨_, hl', tLc_st hl2 r0⟩ hs hc hsl K)

def tcmp (c : ClassFile.Cond) (x y : Int32) : Prop := match c with
  | .eq => x = y
  | .ne => x ≠ y
  | .lt => x < y
  | .ge => x ≥ y
  | .gt => x > y
  | .le => x ≤ y

theorem tt_icmp {cd : ClassFile.Cond} {x y : Int32} {off : Int} {tgt : Nat} (hd : decode M.2.1 pc = .ok (.if_icmp cd off, 3)) (ht : (pc : Int) + off = (tgt : Int)) (k1 : tcmp cd x y → TT l D M Q kc ks tgt loc st h) (k2 : ¬ tcmp cd x y → TT l D M Q kc ks (pc + 3) loc st h) : TT l D M Q kc ks pc loc (.inl y :: .inl x :: st) h := by
  intro p e R s m args below meth c A H0 QQ F H locs cells slots ls sv ws tys hw hl hs hc hsl K
  obtain ⟨w1, s1, e1, r1, w2, s2, e2, r2, hs⟩ := hs
  have r1 : w1 = .int y := r1
  have r2 : w2 = .int x := r2
  subst e1; subst e2; subst r1; subst r2
  cases cd with
  | eq => exact lv_icmp_eq F.1 F.2.1 hd ht (fun q => k1 q p e R s m args below meth c A H0 QQ F H locs cells slots ls _ ws tys hw hl hs hc hsl K) (fun q => k2 q p e R s m args below meth c A H0 QQ F H locs cells slots ls _ ws tys hw hl hs hc hsl K)
  | ne => exact lv_icmp_ne F.1 F.2.1 hd ht (fun q => k1 q p e R s m args below meth c A H0 QQ F H locs cells slots ls _ ws tys hw hl hs hc hsl K) (fun q => k2 (fun z => z q) p e R s m args below meth c A H0 QQ F H locs cells slots ls _ ws tys hw hl hs hc hsl K)
  | lt => exact lv_icmp_lt F.1 F.2.1 hd ht (fun q => k1 q p e R s m args below meth c A H0 QQ F H locs cells slots ls _ ws tys hw hl hs hc hsl K) (fun q => k2 q p e R s m args below meth c A H0 QQ F H locs cells slots ls _ ws tys hw hl hs hc hsl K)
  | ge => exact lv_icmp_ge F.1 F.2.1 hd ht (fun q => k1 q p e R s m args below meth c A H0 QQ F H locs cells slots ls _ ws tys hw hl hs hc hsl K) (fun q => k2 q p e R s m args below meth c A H0 QQ F H locs cells slots ls _ ws tys hw hl hs hc hsl K)
  | gt => exact lv_icmp_gt F.1 F.2.1 hd ht (fun q => k1 q p e R s m args below meth c A H0 QQ F H locs cells slots ls _ ws tys hw hl hs hc hsl K) (fun q => k2 q p e R s m args below meth c A H0 QQ F H locs cells slots ls _ ws tys hw hl hs hc hsl K)
  | le => exact lv_icmp_le F.1 F.2.1 hd ht (fun q => k1 q p e R s m args below meth c A H0 QQ F H locs cells slots ls _ ws tys hw hl hs hc hsl K) (fun q => k2 q p e R s m args below meth c A H0 QQ F H locs cells slots ls _ ws tys hw hl hs hc hsl K)

theorem tt_if {cd : ClassFile.Cond} {x : Int32} {off : Int} {tgt : Nat} (hd : decode M.2.1 pc = .ok (.ifCond cd off, 3)) (ht : (pc : Int) + off = (tgt : Int)) (k1 : tcmp cd x 0 → TT l D M Q kc ks tgt loc st h) (k2 : ¬ tcmp cd x 0 → TT l D M Q kc ks (pc + 3) loc st h) : TT l D M Q kc ks pc loc (.inl x :: st) h := by
  intro p e R s m args below meth c A H0 QQ F H locs cells slots ls sv ws tys hw hl hs hc hsl K
  obtain ⟨w1, s1, e1, r1, hs⟩ := hs
  have r1 : w1 = .int x := r1
  subst e1; subst r1
  cases cd with
  | eq => exact lv_if_eq F.1 F.2.1 hd ht (fun q => k1 q p e R s m args below meth c A H0 QQ F H locs cells slots ls _ ws tys hw hl hs hc hsl K) (fun q => k2 q p e R s m args below meth c A H0 QQ F H locs cells slots ls _ ws tys hw hl hs hc hsl K)
  | ne => exact lv_if_ne F.1 F.2.1 hd ht (fun q => k1 q p e R s m args below meth c A H0 QQ F H locs cells slots ls _ ws tys hw hl hs hc hsl K) (fun q => k2 (fun z => z q) p e R s m args below meth c A H0 QQ F H locs cells slots ls _ ws tys hw hl hs hc hsl K)
  | lt => exact lv_if_lt F.1 F.2.1 hd ht (fun q => k1 q p e R s m args below meth c A H0 QQ F H locs cells slots ls _ ws tys hw hl hs hc hsl K) (fun q => k2 q p e R s m args below meth c A H0 QQ F H locs cells slots ls _ ws tys hw hl hs hc hsl K)
  | ge => exact lv_if_ge F.1 F.2.1 hd ht (fun q => k1 q p e R s m args below meth c A H0 QQ F H locs cells slots ls _ ws tys hw hl hs hc hsl K) (fun q => k2 q p e R s m args below meth c A H0 QQ F H locs cells slots ls _ ws tys hw hl hs hc hsl K)
  | gt => exact lv_if_gt F.1 F.2.1 hd ht (fun q => k1 q p e R s m args below meth c A H0 QQ F H locs cells slots ls _ ws tys hw hl hs hc hsl K) (fun q => k2 q p e R s m args below meth c A H0 QQ F H locs cells slots ls _ ws tys hw hl hs hc hsl K)
  | le => exact lv_if_le F.1 F.2.1 hd ht (fun q => k1 q p e R s m args below meth c A H0 QQ F H locs cells slots ls _ ws tys hw hl hs hc hsl K) (fun q => k2 q p e R s m args below meth c A H0 QQ F H locs cells slots ls _ ws tys hw hl hs hc hsl K)

theorem tt_ifnull {r : Option Nat} {off : Int} {tgt : Nat} (hd : decode M.2.1 pc = .ok (.ifnull off, 3)) (ht : (pc : Int) + off = (tgt : Int)) (k1 : r = none → TT l D M Q kc ks tgt loc st h) (k2 : ∀ q, r = some q → TT l D M Q kc ks (pc + 3) loc st h) : TT l D M Q kc ks pc loc (.inr r :: st) h := by
  intro p e R s m args below meth c A H0 QQ F H locs cells slots ls sv ws tys hw hl hs hc hsl K
  obtain ⟨w1, s1, e1, r1, hs⟩ := hs
  subst e1
  cases r with
  | none =>
    have r1 : w1 = .null := r1
    subst r1
    exact lv_ifnullN F.1 F.2.1 hd ht (k1 rfl p e R s m args below meth c A H0 QQ F H locs cells slots ls _ ws tys hw hl hs hc hsl K)
  | some q =>
    obtain ⟨a, h3, h4⟩ := r1
    subst h4
    exact lv_ifnull F.1 F.2.1 hd (k2 q rfl p e R s m args below meth c A H0 QQ F H locs cells slots ls _ ws tys hw hl hs hc hsl K)
theorem tt_ifnonnull {r : Option Nat} {off : Int} {tgt : Nat} (hd : decode M.2.1 pc = .ok (.ifnonnull off, 3)) (ht : (pc : Int) + off = (tgt : Int)) (k1 : ∀ q, r = some q → TT l D M Q kc ks tgt loc st h) (k2 : r = none → TT l D M Q kc ks (pc + 3) loc st h) : TT l D M Q kc ks pc loc (.inr r :: st) h := by
  intro p e R s m args below meth c A H0 QQ F H locs cells slots ls sv ws tys hw hl hs hc hsl K
  obtain ⟨w1, s1, e1, r1, hs⟩ := hs
  subst e1
  cases r with
  | none =>
    have r1 : w1 = .null := r1
    subst r1
    exact lv_ifnonnullN F.1 F.2.1 hd (k2 rfl p e R s m args below meth c A H0 QQ F H locs cells slots ls _ ws tys hw hl hs hc hsl K)
  | some q =>
    obtain ⟨a, h3, h4⟩ := r1
    subst h4
    exact lv_ifnonnull F.1 F.2.1 hd ht (k1 q rfl p e R s m args below meth c A H0 QQ F H locs cells slots ls _ ws tys hw hl hs hc hsl K)
def ttab (dflt lo hi : Int) (offs : Array Int) (x : Int32) : Int := if x.toInt < lo ∨ hi < x.toInt then dflt else (offs[(x.toInt - lo).toNat]?).getD dflt
theorem tt_table {dflt lo hi : Int} {offs : Array Int} {len : Nat} {x : Int32} {tgt : Nat} (hd : decode M.2.1 pc = .ok (.tableswitch dflt lo hi offs, len)) (hz : hi - lo < offs.size) (ht : (pc : Int) + ttab dflt lo hi offs x = (tgt : Int)) (k : TT l D M Q kc ks tgt loc st h) : TT l D M Q kc ks pc loc (.inl x :: st) h := by
  intro p e R s m args below meth c A H0 QQ F H locs cells slots ls sv ws tys hw hl hs hc hsl K
  obtain ⟨w1, s1, e1, r1, hs⟩ := hs
  have r1 : w1 = .int x := r1
  subst e1; subst r1
  by_cases hx : x.toInt < lo ∨ hi < x.toInt
  · rw [ttab, if_pos hx] at ht
    exact lv_tableOut F.1 F.2.1 hd hx ht (k p e R s m args below meth c A H0 QQ F H locs cells slots ls _ ws tys hw hl hs hc hsl K)
  · rw [ttab, if_neg hx] at ht
    have h1 : ¬ x.toInt < lo := fun q => hx (Or.inl q)
    have h2 : ¬ hi < x.toInt := fun q => hx (Or.inr q)
    have h3 : (x.toInt - lo).toNat < offs.size := by omega
    rw [Array.getElem?_eq_getElem h3] at ht
    exact lv_tableIn F.1 F.2.1 hd h1 h2 (Array.getElem?_eq_getElem h3) ht (k p e R s m args below meth c A H0 QQ F H locs cells slots ls _ ws tys hw hl hs hc hsl K)
theorem tt_ldc {own : String} {index : Nat} {v : Int32} (hd : decode M.2.1 pc = .ok (.ldc index, 2)) (ho : M.1 = own) (hw0 : Jvm.Cond.constant own index v ∈ lw_good) (k : TT l D M Q kc ks (pc + 2) loc (.inl v :: st) h) : TT l D M Q kc ks pc loc st h := by
  intro p e R s m args below meth c A H0 QQ F H locs cells slots ls sv ws tys hw hl hs hc hsl K
  subst ho
  exact lv_ldc F.1 F.2.1 F.2.2.2.1 (F.2.2.2.2.1 _ hw0) hd (k p e R s m args below meth c A H0 QQ F H locs cells slots ls _ ws tys hw hl ⟨_, _, rfl, rfl, hs⟩ hc hsl K)
end TTR
