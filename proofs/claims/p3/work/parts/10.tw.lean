section TWR
variable {l : Launch} {D : va_G} {M : tM} {Q : Nat → tL → List tV → List tC → Prop} {kc ks pc : Nat} {loc : tL} {st : List tV} {h : List tC}
variable {N : Nat} {pk : Int} {τ : List Nat} {P : Nat → Nat → Bool}
theorem i_nn {i : Int32} (h : 0 ≤ i.toInt) : ¬ i < 0 := fun z => by have := Int32.lt_iff_toInt_lt.mp z; simp at this; omega
theorem i_lt {i : Int32} {n : Nat} (h0 : 0 ≤ i.toInt) (h : i.toInt < n) : i.toNatClampNeg < n := by show i.toInt.toNat < n; omega
-- fields
theorem tw_geti {idx ci k a : Nat} {ty : FieldType} {fin : Bool} {lo hi : Int} (hd : decode M.2.1 pc = .ok (.getfield idx, 3)) (hf : tFd M.1 idx ci k ty fin) (hw : WT N pk τ h) (ht : τ[a]? = some ci) (hc : ci < 8) (hft : (fts N pk ci)[k]? = some (.inl (lo, hi)))
    (kk : ∀ (fs : List tV) (x : Int32), h[a]? = some (.inr (.inr (ci, fs))) → fs[k]? = some (.inl x) → lo ≤ x.toInt → x.toInt ≤ hi → TT l D M Q kc ks (pc + 3) loc (.inl x :: st) h) : TT l D M Q kc ks pc loc (.inr (some a) :: st) h := by
  obtain ⟨fs, h1, h2, h3, h4⟩ := wt_obj hw ht hc
  obtain ⟨v, h5, h6⟩ := h3 k _ hft
  match v, h5, h6 with
  | .inl x, h5, h6 => exact tt_get hd hf h1 h5 (kk fs x h1 h5 h6.1 h6.2)
  | .inr none, _, h6 => exact h6.elim
  | .inr (some q), _, h6 => exact h6.elim
theorem tw_getr {idx ci k a r : Nat} {ty : FieldType} {fin : Bool} (hd : decode M.2.1 pc = .ok (.getfield idx, 3)) (hf : tFd M.1 idx ci k ty fin) (hw : WT N pk τ h) (ht : τ[a]? = some ci) (hc : ci < 8) (hft : (fts N pk ci)[k]? = some (.inr (r, false)))
    (kk : ∀ (fs : List tV) (q : Nat), h[a]? = some (.inr (.inr (ci, fs))) → fs[k]? = some (.inr (some q)) → τ[q]? = some r → TT l D M Q kc ks (pc + 3) loc (.inr (some q) :: st) h) : TT l D M Q kc ks pc loc (.inr (some a) :: st) h := by
  obtain ⟨fs, h1, h2, h3, h4⟩ := wt_obj hw ht hc
  obtain ⟨v, h5, h6⟩ := h3 k _ hft
  match v, h5, h6 with
  | .inl x, _, h6 => exact h6.elim
  | .inr none, _, h6 => cases h6
  | .inr (some q), h5, h6 => exact tt_get hd hf h1 h5 (kk fs q h1 h5 h6)
theorem tw_getn {idx ci k a r : Nat} {ty : FieldType} {fin nu : Bool} (hd : decode M.2.1 pc = .ok (.getfield idx, 3)) (hf : tFd M.1 idx ci k ty fin) (hw : WT N pk τ h) (ht : τ[a]? = some ci) (hc : ci < 8) (hft : (fts N pk ci)[k]? = some (.inr (r, nu)))
    (kk : ∀ (fs : List tV) (o : Option Nat), h[a]? = some (.inr (.inr (ci, fs))) → fs[k]? = some (.inr o) → (∀ q, o = some q → τ[q]? = some r) → TT l D M Q kc ks (pc + 3) loc (.inr o :: st) h) : TT l D M Q kc ks pc loc (.inr (some a) :: st) h := by
  obtain ⟨fs, h1, h2, h3, h4⟩ := wt_obj hw ht hc
  obtain ⟨v, h5, h6⟩ := h3 k _ hft
  match v, h5, h6 with
  | .inl x, _, h6 => exact h6.elim
  | .inr none, h5, h6 => exact tt_get hd hf h1 h5 (kk fs none h1 h5 (fun q z => by cases z))
  | .inr (some q), h5, h6 => exact tt_get hd hf h1 h5 (kk fs (some q) h1 h5 (fun q' z => by cases z; exact h6))
theorem tw_put {idx ci k a : Nat} {ty : FieldType} {ft : tF} {v : tV} (hd : decode M.2.1 pc = .ok (.putfield idx, 3)) (hf : tFd M.1 idx ci k ty false) (hw : WT N pk τ h) (ht : τ[a]? = some ci) (hc : ci < 8) (hft : (fts N pk ci)[k]? = some ft) (hv : vty τ ft v) (hvt : tfits ty v = true) (hm : ci = 1 → 2 ≤ k) (hp : P ci k = false)
    (kk : ∀ (fs : List tV) (h' : List tC), h[a]? = some (.inr (.inr (ci, fs))) → h'[a]? = some (.inr (.inr (ci, fs.set k v))) → k < fs.length → WT N pk τ h' → Fr P τ h h' → TT l D M Q kc ks (pc + 3) loc st h') : TT l D M Q kc ks pc loc (v :: .inr (some a) :: st) h := by
  obtain ⟨fs, h1, h2, h3, h4⟩ := wt_obj hw ht hc
  have hk : k < fs.length := by rw [h2]; exact t_at hft
  exact tt_put hd hf (Or.inl rfl) h1 hk hvt (kk fs _ h1 (List.getElem?_set_self (t_at h1)) hk (wt_puto hw ht hc h1 hft hv hm) (fr_puto hw.1 ht h1 hp))
-- arrays
theorem tw_ild {a r len : Nat} {lo hi : Int} {i : Int32} (hd : decode M.2.1 pc = .ok (.iaload, 1)) (hw : WT N pk τ h) (ht : τ[a]? = some r) (ha : ats N r = some (0, len, .inl (lo, hi))) (h0 : 0 ≤ i.toInt) (h1 : i.toInt < len)
    (kk : ∀ (xs : List Int32) (x : Int32), h[a]? = some (.inl (0, xs)) → xs[i.toNatClampNeg]? = some x → lo ≤ x.toInt → x.toInt ≤ hi → TT l D M Q kc ks (pc + 1) loc (.inl x :: st) h) : TT l D M Q kc ks pc loc (.inl i :: .inr (some a) :: st) h := by
  obtain ⟨xs, g1, g2, g3⟩ := wt_ints hw ht ha (by decide)
  have hlt : i.toNatClampNeg < xs.length := by rw [g2]; exact i_lt h0 h1
  have hx := List.getElem?_eq_getElem hlt
  have hb := g3 _ (List.getElem_mem hlt)
  exact tt_iald hd g1 (i_nn h0) hx (kk xs _ g1 hx hb.1 hb.2)
theorem tw_zld {a r len : Nat} {lo hi : Int} {i : Int32} (hd : decode M.2.1 pc = .ok (.baload, 1)) (hw : WT N pk τ h) (ht : τ[a]? = some r) (ha : ats N r = some (1, len, .inl (lo, hi))) (h0 : 0 ≤ i.toInt) (h1 : i.toInt < len)
    (kk : ∀ (xs : List Int32) (x : Int32), h[a]? = some (.inl (1, xs)) → xs[i.toNatClampNeg]? = some x → lo ≤ x.toInt → x.toInt ≤ hi → TT l D M Q kc ks (pc + 1) loc (.inl x :: st) h) : TT l D M Q kc ks pc loc (.inl i :: .inr (some a) :: st) h := by
  obtain ⟨xs, g1, g2, g3⟩ := wt_ints hw ht ha (by decide)
  have hlt : i.toNatClampNeg < xs.length := by rw [g2]; exact i_lt h0 h1
  have hx := List.getElem?_eq_getElem hlt
  have hb := g3 _ (List.getElem_mem hlt)
  exact tt_zald hd g1 (i_nn h0) hx (kk xs _ g1 hx hb.1 hb.2)
theorem tw_ist {a r len : Nat} {lo hi : Int} {i x : Int32} (hd : decode M.2.1 pc = .ok (.iastore, 1)) (hw : WT N pk τ h) (ht : τ[a]? = some r) (ha : ats N r = some (0, len, .inl (lo, hi))) (h0 : 0 ≤ i.toInt) (h1 : i.toInt < len) (b0 : lo ≤ x.toInt) (b1 : x.toInt ≤ hi) (hp : P r 0 = false)
    (kk : ∀ (xs : List Int32) (h' : List tC), h[a]? = some (.inl (0, xs)) → h'[a]? = some (.inl (0, xs.set i.toNatClampNeg x)) → i.toNatClampNeg < xs.length → WT N pk τ h' → Fr P τ h h' → TT l D M Q kc ks (pc + 1) loc st h') (hr : r ≠ 42 ∧ r ≠ 43 ∧ r ≠ 44 := by decide) : TT l D M Q kc ks pc loc (.inl x :: .inl i :: .inr (some a) :: st) h := by
  obtain ⟨xs, g1, g2, g3⟩ := wt_ints hw ht ha (by decide)
  have hlt : i.toNatClampNeg < xs.length := by rw [g2]; exact i_lt h0 h1
  refine tt_iast hd g1 (i_nn h0) hlt (kk xs _ g1 (List.getElem?_set_self (t_at g1)) hlt (wt_puti hw ht ha g1 ⟨b0, b1⟩ hr) (fr_puta hw.1 ht (fun ci fs z => ?_) (fun ci fs z => by cases z) hp))
  rw [g1] at z
  cases z
theorem tw_zst {a r len : Nat} {i x : Int32} (hd : decode M.2.1 pc = .ok (.bastore, 1)) (hw : WT N pk τ h) (ht : τ[a]? = some r) (ha : ats N r = some (1, len, booI)) (h0 : 0 ≤ i.toInt) (h1 : i.toInt < len) (b0 : 0 ≤ x.toInt) (b1 : x.toInt ≤ 1) (hp : P r 0 = false)
    (kk : ∀ (xs : List Int32) (h' : List tC), h[a]? = some (.inl (1, xs)) → h'[a]? = some (.inl (1, xs.set i.toNatClampNeg x)) → i.toNatClampNeg < xs.length → WT N pk τ h' → Fr P τ h h' → TT l D M Q kc ks (pc + 1) loc st h') (hr : r ≠ 42 ∧ r ≠ 43 ∧ r ≠ 44 := by decide) : TT l D M Q kc ks pc loc (.inl x :: .inl i :: .inr (some a) :: st) h := by
  obtain ⟨xs, g1, g2, g3⟩ := wt_ints hw ht ha (by decide)
  have hlt : i.toNatClampNeg < xs.length := by rw [g2]; exact i_lt h0 h1
  have hx01 : x = 0 ∨ x = 1 := by
    have hx : x.toInt = 0 ∨ x.toInt = 1 := by omega
    rcases hx with hx | hx
    · exact Or.inl (Int32.toInt_inj.mp hx)
    · exact Or.inr (Int32.toInt_inj.mp hx)
  refine tt_zast hd g1 (i_nn h0) hlt hx01 (kk xs _ g1 (List.getElem?_set_self (t_at g1)) hlt (wt_puti hw ht ha g1 ⟨b0, b1⟩ hr) (fr_puta hw.1 ht (fun ci fs z => ?_) (fun ci fs z => by cases z) hp))
  rw [g1] at z
  cases z
theorem tw_ald {a r t len r2 : Nat} {i : Int32} (hd : decode M.2.1 pc = .ok (.aaload, 1)) (hw : WT N pk τ h) (ht : τ[a]? = some r) (ha : ats N r = some (t, len, .inr (r2, false))) (h2 : 2 ≤ t) (h0 : 0 ≤ i.toInt) (h1 : i.toInt < len)
    (kk : ∀ (rs : List (Option Nat)) (q : Nat), h[a]? = some (.inr (.inl (t, rs))) → rs[i.toNatClampNeg]? = some (some q) → τ[q]? = some r2 → TT l D M Q kc ks (pc + 1) loc (.inr (some q) :: st) h) : TT l D M Q kc ks pc loc (.inl i :: .inr (some a) :: st) h := by
  obtain ⟨rs, g1, g2, g3, -⟩ := wt_refs hw ht ha h2
  have hlt : i.toNatClampNeg < rs.length := by rw [g2]; exact i_lt h0 h1
  have hx := List.getElem?_eq_getElem hlt
  have hb := g3 _ (List.getElem_mem hlt)
  generalize rs[i.toNatClampNeg] = v at hx hb
  match v, hx, hb with
  | none, _, hb => cases hb
  | some q, hx, hb => exact tt_aald hd g1 h2 (i_nn h0) hx (kk rs q g1 hx hb)
theorem tw_aldn {a r t len r2 : Nat} {nu : Bool} {i : Int32} (hd : decode M.2.1 pc = .ok (.aaload, 1)) (hw : WT N pk τ h) (ht : τ[a]? = some r) (ha : ats N r = some (t, len, .inr (r2, nu))) (h2 : 2 ≤ t) (h0 : 0 ≤ i.toInt) (h1 : i.toInt < len)
    (kk : ∀ (rs : List (Option Nat)) (o : Option Nat), h[a]? = some (.inr (.inl (t, rs))) → rs[i.toNatClampNeg]? = some o → (∀ q, o = some q → τ[q]? = some r2) → TT l D M Q kc ks (pc + 1) loc (.inr o :: st) h) : TT l D M Q kc ks pc loc (.inl i :: .inr (some a) :: st) h := by
  obtain ⟨rs, g1, g2, g3, -⟩ := wt_refs hw ht ha h2
  have hlt : i.toNatClampNeg < rs.length := by rw [g2]; exact i_lt h0 h1
  have hx := List.getElem?_eq_getElem hlt
  have hb := g3 _ (List.getElem_mem hlt)
  generalize rs[i.toNatClampNeg] = v at hx hb
  match v, hx, hb with
  | none, hx, hb => exact tt_aald hd g1 h2 (i_nn h0) hx (kk rs none g1 hx (fun q z => by cases z))
  | some q, hx, hb => exact tt_aald hd g1 h2 (i_nn h0) hx (kk rs (some q) g1 hx (fun q' z => by cases z; exact hb))
/-- a packet that there is -/
theorem tw_aldp {a : Nat} {i : Int32} (hd : decode M.2.1 pc = .ok (.aaload, 1)) (hw : WT N pk τ h) (ht : τ[a]? = some 11) (h0 : 0 ≤ i.toInt) (h1 : i.toInt < pk) (h64 : i.toInt < 64)
    (kk : ∀ (rs : List (Option Nat)) (q : Nat), h[a]? = some (.inr (.inl (4, rs))) → rs[i.toNatClampNeg]? = some (some q) → τ[q]? = some 3 → TT l D M Q kc ks (pc + 1) loc (.inr (some q) :: st) h) : TT l D M Q kc ks pc loc (.inl i :: .inr (some a) :: st) h := by
  obtain ⟨rs, g1, g2, g3, g4⟩ := wt_refs (r := 11) (t := 4) (len := 64) (ft := .inr (3, true)) hw ht rfl (by decide)
  have hlt : i.toNatClampNeg < rs.length := by rw [g2]; exact i_lt h0 (by omega)
  have hx := List.getElem?_eq_getElem hlt
  have hb := g3 _ (List.getElem_mem hlt)
  generalize rs[i.toNatClampNeg] = v at hx hb
  match v, hx, hb with
  | none, hx, _ =>
    have := g4 rfl _ hx
    have e : ((i.toNatClampNeg : Nat) : Int) = i.toInt := by show ((i.toInt.toNat : Nat) : Int) = _; omega
    omega
  | some q, hx, hb => exact tt_aald hd g1 (by decide) (i_nn h0) hx (kk rs q g1 hx hb)
theorem tw_ast {a b r t len ci : Nat} {nu : Bool} {C : String} {T : u_T} {N' : Nat} {i : Int32} (hd : decode M.2.1 pc = .ok (.aastore, 1)) (hw : WT N pk τ h) (ht : τ[a]? = some r) (ha : ats N r = some (t, len, .inr (ci, nu))) (h2 : 2 ≤ t) (hb : τ[b]? = some ci) (hc : ci < 8) (hC : vwCl[ci]? = some (C, T, N')) (hat : tAty t = .object C) (h0 : 0 ≤ i.toInt) (h1 : i.toInt < len) (hp : P r 0 = false)
    (kk : ∀ (rs : List (Option Nat)) (h' : List tC), h[a]? = some (.inr (.inl (t, rs))) → h'[a]? = some (.inr (.inl (t, rs.set i.toNatClampNeg (some b)))) → i.toNatClampNeg < rs.length → WT N pk τ h' → Fr P τ h h' → TT l D M Q kc ks (pc + 1) loc st h') : TT l D M Q kc ks pc loc (.inr (some b) :: .inl i :: .inr (some a) :: st) h := by
  obtain ⟨rs, g1, g2, g3, g4⟩ := wt_refs hw ht ha h2
  obtain ⟨fs, k1, -⟩ := wt_obj hw hb hc
  have hlt : i.toNatClampNeg < rs.length := by rw [g2]; exact i_lt h0 h1
  refine tt_aast hd g1 k1 hC hat (i_nn h0) hlt (kk rs _ g1 (List.getElem?_set_self (t_at g1)) hlt (wt_set hw ht ⟨h2, ⟨len, _, ha, by rw [List.length_set]; exact g2, fun q hq => ?_⟩, fun e j hj => ?_⟩ ⟨fun z => (by subst z; cases ha), fun z => (by subst z; cases ha), fun z => (by subst z; cases ha)⟩) (fr_puta hw.1 ht (fun ci fs z => by rw [g1] at z; cases z) (fun ci fs z => by cases z) hp))
  · rcases List.mem_or_eq_of_mem_set hq with h | rfl
    · exact g3 q h
    · exact hb
  · by_cases e2 : i.toNatClampNeg = j
    · subst e2
      rw [List.getElem?_set_self hlt] at hj
      cases hj
    · rw [List.getElem?_set_ne e2] at hj
      exact g4 e j hj
theorem tw_alen {a r t len : Nat} {ft : tF} (hd : decode M.2.1 pc = .ok (.arraylength, 1)) (hw : WT N pk τ h) (ht : τ[a]? = some r) (ha : ats N r = some (t, len, ft)) (h2 : 2 ≤ t) (hN : len ≤ 100000) (kk : ∀ x : Int32, x.toInt = len → TT l D M Q kc ks (pc + 1) loc (.inl x :: st) h) : TT l D M Q kc ks pc loc (.inr (some a) :: st) h := by
  obtain ⟨rs, g1, g2, g3, g4⟩ := wt_refs hw ht ha h2
  refine tt_alenr hd g1 (kk _ ?_)
  rw [g2]
  have : (Int32.ofNat len).toInt = len := Int32.toInt_ofNat_of_lt (by omega)
  exact this
-- ints
theorem i_add {x y : Int32} (h : -2147483648 ≤ x.toInt + y.toInt ∧ x.toInt + y.toInt ≤ 2147483647) : (x + y).toInt = x.toInt + y.toInt := by
  rw [Int32.toInt_add]
  exact Int.bmod_eq_of_le (by omega) (by omega)
theorem i_sub {x y : Int32} (h : -2147483648 ≤ x.toInt - y.toInt ∧ x.toInt - y.toInt ≤ 2147483647) : (x - y).toInt = x.toInt - y.toInt := by
  rw [Int32.toInt_sub]
  exact Int.bmod_eq_of_le (by omega) (by omega)
theorem i_mul {x y : Int32} (h : -2147483648 ≤ x.toInt * y.toInt ∧ x.toInt * y.toInt ≤ 2147483647) : (x * y).toInt = x.toInt * y.toInt := by
  rw [Int32.toInt_mul]
  exact Int.bmod_eq_of_le (by omega) (by omega)
theorem i_ty (x : Int32) : -2147483648 ≤ x.toInt ∧ x.toInt ≤ 2147483647 := by
  have h1 := Int32.le_toInt x
  have h2 := Int32.toInt_lt x
  omega
theorem tw_iadd {x y : Int32} (hd : decode M.2.1 pc = .ok (.iadd, 1)) (h1 : -2147483648 ≤ x.toInt + y.toInt ∧ x.toInt + y.toInt ≤ 2147483647) (k : ∀ z : Int32, z.toInt = x.toInt + y.toInt → TT l D M Q kc ks (pc + 1) loc (.inl z :: st) h) : TT l D M Q kc ks pc loc (.inl y :: .inl x :: st) h := tt_iadd hd (k _ (i_add h1))
theorem tw_isub {x y : Int32} (hd : decode M.2.1 pc = .ok (.isub, 1)) (h1 : -2147483648 ≤ x.toInt - y.toInt ∧ x.toInt - y.toInt ≤ 2147483647) (k : ∀ z : Int32, z.toInt = x.toInt - y.toInt → TT l D M Q kc ks (pc + 1) loc (.inl z :: st) h) : TT l D M Q kc ks pc loc (.inl y :: .inl x :: st) h := tt_isub hd (k _ (i_sub h1))
theorem tw_imul {x y : Int32} {c : Int} (hd : decode M.2.1 pc = .ok (.imul, 1)) (hc : x.toInt = c) (h1 : -2147483648 ≤ c * y.toInt ∧ c * y.toInt ≤ 2147483647) (k : ∀ z : Int32, z.toInt = c * y.toInt → TT l D M Q kc ks (pc + 1) loc (.inl z :: st) h) : TT l D M Q kc ks pc loc (.inl y :: .inl x :: st) h := tt_imul hd (k _ (by subst hc; exact i_mul h1))
theorem tw_any {x : Int32} (k : ∀ z : Int32, TT l D M Q kc ks pc loc (.inl z :: st) h) : TT l D M Q kc ks pc loc (.inl x :: st) h := k x
theorem tw_con {x : Int32} {c : Int} (hc : x.toInt = c) (k : ∀ z : Int32, z.toInt = c → TT l D M Q kc ks pc loc (.inl z :: st) h) : TT l D M Q kc ks pc loc (.inl x :: st) h := k x hc
theorem tcmp_eq {x y : Int32} : tcmp .eq x y ↔ x.toInt = y.toInt := Int32.toInt_inj.symm
theorem tcmp_ne {x y : Int32} : tcmp .ne x y ↔ x.toInt ≠ y.toInt := not_congr Int32.toInt_inj.symm
theorem tcmp_lt {x y : Int32} : tcmp .lt x y ↔ x.toInt < y.toInt := Int32.lt_iff_toInt_lt
theorem tcmp_ge {x y : Int32} : tcmp .ge x y ↔ y.toInt ≤ x.toInt := Int32.le_iff_toInt_le
theorem tcmp_gt {x y : Int32} : tcmp .gt x y ↔ y.toInt < x.toInt := Int32.lt_iff_toInt_lt
theorem tcmp_le {x y : Int32} : tcmp .le x y ↔ x.toInt ≤ y.toInt := Int32.le_iff_toInt_le
def tcmpZ (c : ClassFile.Cond) (x y : Int) : Prop := match c with
  | .eq => x = y
  | .ne => x ≠ y
  | .lt => x < y
  | .ge => y ≤ x
  | .gt => y < x
  | .le => x ≤ y
theorem tcmp_z {c : ClassFile.Cond} {x y : Int32} : tcmp c x y ↔ tcmpZ c x.toInt y.toInt := by
  cases c
  · exact tcmp_eq
  · exact tcmp_ne
  · exact tcmp_lt
  · exact tcmp_ge
  · exact tcmp_gt
  · exact tcmp_le
theorem tw_icmp {cd : ClassFile.Cond} {x y : Int32} {off : Int} {tgt : Nat} (hd : decode M.2.1 pc = .ok (.if_icmp cd off, 3)) (ht : (pc : Int) + off = (tgt : Int)) (k1 : tcmpZ cd x.toInt y.toInt → TT l D M Q kc ks tgt loc st h) (k2 : ¬ tcmpZ cd x.toInt y.toInt → TT l D M Q kc ks (pc + 3) loc st h) : TT l D M Q kc ks pc loc (.inl y :: .inl x :: st) h :=
  tt_icmp hd ht (fun z => k1 (tcmp_z.mp z)) (fun z => k2 (fun y => z (tcmp_z.mpr y)))
theorem tw_if {cd : ClassFile.Cond} {x : Int32} {off : Int} {tgt : Nat} (hd : decode M.2.1 pc = .ok (.ifCond cd off, 3)) (ht : (pc : Int) + off = (tgt : Int)) (k1 : tcmpZ cd x.toInt 0 → TT l D M Q kc ks tgt loc st h) (k2 : ¬ tcmpZ cd x.toInt 0 → TT l D M Q kc ks (pc + 3) loc st h) : TT l D M Q kc ks pc loc (.inl x :: st) h :=
  tt_if hd ht (fun z => k1 (by have := tcmp_z.mp z; exact this)) (fun z => k2 (fun y => z (tcmp_z.mpr y)))
theorem i_rem {x y : Int32} {c : Int} (hc : y.toInt = c) (h0 : 0 ≤ x.toInt) (h1 : 0 < c) : (x - x / y * y).toInt = x.toInt % c := by
  have hx := i_ty x
  have hd0 : 0 ≤ x.toInt / c := Int.ediv_nonneg h0 (by omega)
  have hd1 : x.toInt / c ≤ x.toInt := Int.ediv_le_self _ h0
  have hq : (x / y).toInt = x.toInt / c := by
    rw [Int32.toInt_div, hc, Int.tdiv_eq_ediv_of_nonneg h0]
    exact Int.bmod_eq_of_le (by omega) (by omega)
  have hm0 : x.toInt / c * c ≤ x.toInt := Int.ediv_mul_le _ (by omega)
  have hm1 : 0 ≤ x.toInt / c * c := Int.mul_nonneg hd0 (by omega)
  have hm : (x / y * y).toInt = x.toInt / c * c := by
    rw [← hq, ← hc]
    refine i_mul ?_
    rw [hq, hc]
    omega
  rw [i_sub (by rw [hm]; omega), hm, Int.emod_def, Int.mul_comm]
theorem tw_irem {x y : Int32} {c : Int} (hd : decode M.2.1 pc = .ok (.irem, 1)) (hc : y.toInt = c) (h0 : 0 ≤ x.toInt) (h1 : 0 < c) (k : ∀ z : Int32, z.toInt = x.toInt % c → TT l D M Q kc ks (pc + 1) loc (.inl z :: st) h) : TT l D M Q kc ks pc loc (.inl y :: .inl x :: st) h :=
  tt_irem hd (fun z => by subst z; simp at hc; omega) (k _ (i_rem hc h0 h1))
theorem tw_idiv {x y : Int32} {c : Int} (hd : decode M.2.1 pc = .ok (.idiv, 1)) (hc : y.toInt = c) (h0 : 0 ≤ x.toInt) (h1 : 0 < c) (k : ∀ z : Int32, z.toInt = x.toInt / c → TT l D M Q kc ks (pc + 1) loc (.inl z :: st) h) : TT l D M Q kc ks pc loc (.inl y :: .inl x :: st) h := by
  refine tt_idiv hd (fun z => by subst z; simp at hc; omega) (k _ ?_)
  have hx := i_ty x
  have hd0 : 0 ≤ x.toInt / c := Int.ediv_nonneg h0 (by omega)
  have hd1 : x.toInt / c ≤ x.toInt := Int.ediv_le_self _ h0
  rw [Int32.toInt_div, hc, Int.tdiv_eq_ediv_of_nonneg h0]
  exact Int.bmod_eq_of_le (by omega) (by omega)
end TWR
