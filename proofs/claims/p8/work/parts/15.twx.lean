section TWX
variable {l : Launch} {D : va_G} {M : tM} {Q : Nat → tL → List tV → List tC → Prop} {kc ks pc : Nat} {loc : tL} {st : List tV} {h : List tC}
variable {N : Nat} {pk : Int} {τ : List Nat}
theorem tw_iconst {n : Int} (hd : decode M.2.1 pc = .ok (.iconst n, 1)) (hc : (Int32.ofInt n).toInt = n) (k : ∀ z : Int32, z.toInt = n → TT l D M Q kc ks (pc + 1) loc (.inl z :: st) h) : TT l D M Q kc ks pc loc st h := tt_iconst hd (k _ hc)
theorem tw_bipush {n : Int} (hd : decode M.2.1 pc = .ok (.bipush n, 2)) (hc : ((Int8.ofInt n).toInt32).toInt = n) (k : ∀ z : Int32, z.toInt = n → TT l D M Q kc ks (pc + 2) loc (.inl z :: st) h) : TT l D M Q kc ks pc loc st h := tt_bipush hd (k _ hc)
theorem tw_sipush {n : Int} (hd : decode M.2.1 pc = .ok (.sipush n, 3)) (hc : ((Int16.ofInt n).toInt32).toInt = n) (k : ∀ z : Int32, z.toInt = n → TT l D M Q kc ks (pc + 3) loc (.inl z :: st) h) : TT l D M Q kc ks pc loc st h := tt_sipush hd (k _ hc)
theorem tw_ldc {own : String} {index : Nat} {v : Int32} {n : Int} (hd : decode M.2.1 pc = .ok (.ldc index, 2)) (ho : M.1 = own) (hw0 : Jvm.Cond.constant own index v ∈ lw_good) (hc : v.toInt = n) (k : ∀ z : Int32, z.toInt = n → TT l D M Q kc ks (pc + 2) loc (.inl z :: st) h) : TT l D M Q kc ks pc loc st h := tt_ldc hd ho hw0 (k _ hc)
theorem i_ofI {n : Int} (h : -2147483648 ≤ n ∧ n ≤ 2147483647) : (Int32.ofInt n).toInt = n := Int32.toInt_ofInt_of_le (by omega) (by omega)
theorem tw_iinc {i : Nat} {n : Int} {x : Int32} (hd : decode M.2.1 pc = .ok (.iinc i n, 3)) (hm : (i, Sum.inl x) ∈ loc) (hn : i < M.2.2.1) (h1 : -100000 ≤ n ∧ n ≤ 100000) (h2 : -2000000000 ≤ x.toInt ∧ x.toInt ≤ 2000000000) (k : ∀ z : Int32, z.toInt = x.toInt + n → TT l D M Q kc ks (pc + 3) (tSt loc i (.inl z)) st h) : TT l D M Q kc ks pc loc st h := by
  refine tt_iinc hd hm hn (k _ ?_)
  have e := i_ofI (n := n) (by omega)
  rw [i_add (by rw [e]; omega), e]
theorem tw_imul2 {x y : Int32} {c : Int} (hd : decode M.2.1 pc = .ok (.imul, 1)) (hc : y.toInt = c) (h1 : -2147483648 ≤ x.toInt * c ∧ x.toInt * c ≤ 2147483647) (k : ∀ z : Int32, z.toInt = x.toInt * c → TT l D M Q kc ks (pc + 1) loc (.inl z :: st) h) : TT l D M Q kc ks pc loc (.inl y :: .inl x :: st) h := tt_imul hd (k _ (by subst hc; exact i_mul h1))
theorem tw_tableK {dflt lo hi c off : Int} {offs : Array Int} {len tgt : Nat} {x : Int32} (hd : decode M.2.1 pc = .ok (.tableswitch dflt lo hi offs, len)) (hz : hi - lo < offs.size) (hx : x.toInt = c) (h1 : lo ≤ c) (h2 : c ≤ hi) (ho : offs[(c - lo).toNat]? = some off) (ht : (pc : Int) + off = (tgt : Int)) (k : TT l D M Q kc ks tgt loc st h) : TT l D M Q kc ks pc loc (.inl x :: st) h := by
  refine tt_table hd hz ?_ k
  unfold ttab
  rw [hx, if_neg (by omega), ho]
  exact ht
theorem tw_tableD {dflt lo hi : Int} {offs : Array Int} {len tgt : Nat} {x : Int32} (hd : decode M.2.1 pc = .ok (.tableswitch dflt lo hi offs, len)) (hz : hi - lo < offs.size) (hx : x.toInt < lo ∨ hi < x.toInt) (ht : (pc : Int) + dflt = (tgt : Int)) (k : TT l D M Q kc ks tgt loc st h) : TT l D M Q kc ks pc loc (.inl x :: st) h := by
  refine tt_table hd hz ?_ k
  unfold ttab
  rw [if_pos hx]
  exact ht
theorem tw_callV {idx ci N' F L mc ms n np a : Nat} {T : u_T} {y : MethodName} {b : ByteArray} {r : Option FieldType} {as : List tV} {Qc : Option tV → List tC → Prop} (hw : WT N pk τ h) (ht : τ[a]? = some ci) (hc : ci < 8) (hd : decode M.2.1 pc = .ok (.invokevirtual idx, 3)) (hk : tLk M.1 idx y b n r np) (hi : Cond.instanceMethod y ∈ lw_good) (hsel : Cond.selects y.cls y y ∈ lw_good) (hC : vwCl[ci]? = some (y.cls, T, N')) (hn : as.length = np) (hF : F + 1 ≤ M.2.2.2.1) (hL : 8 + (n + 11) + L ≤ M.2.2.2.2.1) (hst : st.length ≤ 8)
    (hM : TMc l D y b n r F L mc ms (.inr (some a) :: as) h Qc) (kk : ∀ rv h', Qc rv h' → TT l D M Q kc ks (pc + 3) loc (rv.toList ++ st) h') : TT l D M Q (mc + kc) (ms + ks) pc loc (as.reverse ++ .inr (some a) :: st) h := by
  obtain ⟨fs, h1, -⟩ := wt_obj hw ht hc
  exact tt_callV hd hk hi hsel hC h1 hn hF hL hst hM kk
theorem bool01 {x : Int32} (h0 : 0 ≤ x.toInt) (h1 : x.toInt ≤ 1) : x = 0 ∨ x = 1 := by
  have hx : x.toInt = 0 ∨ x.toInt = 1 := by omega
  rcases hx with hx | hx
  · exact Or.inl (Int32.toInt_inj.mp hx)
  · exact Or.inr (Int32.toInt_inj.mp hx)
theorem tfb {x : Int32} (h0 : 0 ≤ x.toInt) (h1 : x.toInt ≤ 1) : tfits .boolean (.inl x) = true := by
  rcases bool01 h0 h1 with rfl | rfl <;> rfl
theorem tw_iincA {i : Nat} {n : Int} {x : Int32} (hd : decode M.2.1 pc = .ok (.iinc i n, 3)) (hm : (i, Sum.inl x) ∈ loc) (hn : i < M.2.2.1) (k : ∀ z : Int32, TT l D M Q kc ks (pc + 3) (tSt loc i (.inl z)) st h) : TT l D M Q kc ks pc loc st h := tt_iinc hd hm hn (k _)
theorem tt_loc (loc' : tL) (hs : ∀ q ∈ loc', q ∈ loc) (k : TT l D M Q kc ks pc loc' st h) : TT l D M Q kc ks pc loc st h := by
  intro p e R s m args below meth c A H0 QQ F H locs cells slots ls sv ws tys hw hl hs' hc hsl K
  obtain ⟨lv, h1, h2⟩ := hl
  exact k p e R s m args below meth c A H0 QQ F H locs cells slots ls sv ws tys hw ⟨lv, h1, fun q hq => h2 q (hs q hq)⟩ hs' hc hsl K
theorem i_min {x y : Int32} : ((if y < x then y else x).toInt = x.toInt ∨ (if y < x then y else x).toInt = y.toInt) ∧ (if y < x then y else x).toInt ≤ x.toInt ∧ (if y < x then y else x).toInt ≤ y.toInt := by
  by_cases c : y < x
  · rw [if_pos c]
    have := Int32.lt_iff_toInt_lt.mp c
    omega
  · rw [if_neg c]
    have : ¬ y.toInt < x.toInt := fun z => c (Int32.lt_iff_toInt_lt.mpr z)
    omega
theorem i_max {x y : Int32} : ((if x < y then y else x).toInt = x.toInt ∨ (if x < y then y else x).toInt = y.toInt) ∧ x.toInt ≤ (if x < y then y else x).toInt ∧ y.toInt ≤ (if x < y then y else x).toInt := by
  by_cases c : x < y
  · rw [if_pos c]
    have := Int32.lt_iff_toInt_lt.mp c
    omega
  · rw [if_neg c]
    have : ¬ x.toInt < y.toInt := fun z => c (Int32.lt_iff_toInt_lt.mpr z)
    omega
theorem tw_minv {x y : Int32} (k : ∀ z : Int32, (z.toInt = x.toInt ∨ z.toInt = y.toInt) ∧ z.toInt ≤ x.toInt ∧ z.toInt ≤ y.toInt → TT l D M Q kc ks pc loc (.inl z :: st) h) : TT l D M Q kc ks pc loc (.inl (if y < x then y else x) :: st) h := k _ i_min
theorem tw_maxv {x y : Int32} (k : ∀ z : Int32, (z.toInt = x.toInt ∨ z.toInt = y.toInt) ∧ x.toInt ≤ z.toInt ∧ y.toInt ≤ z.toInt → TT l D M Q kc ks pc loc (.inl z :: st) h) : TT l D M Q kc ks pc loc (.inl (if x < y then y else x) :: st) h := k _ i_max
/-- a message's subject, its kind being known -/
theorem tw_subj7 {idx a : Nat} {ty : FieldType} {fin : Bool} (hd : decode M.2.1 pc = .ok (.getfield idx, 3)) (hf : tFd M.1 idx 1 1 ty fin) (hw : WT N pk τ h) (ht : τ[a]? = some 1) (hk : ∀ (fs : List tV) (x : Int32), h[a]? = some (.inr (.inr (1, fs))) → fs[0]? = some (.inl x) → x.toInt ≠ 4)
    (kk : ∀ (fs : List tV) (x : Int32), h[a]? = some (.inr (.inr (1, fs))) → fs[1]? = some (.inl x) → 0 ≤ x.toInt → x.toInt ≤ 7 → TT l D M Q kc ks (pc + 3) loc (.inl x :: st) h) : TT l D M Q kc ks pc loc (.inr (some a) :: st) h := by
  obtain ⟨fs, h1, h2, h3, h4⟩ := wt_obj hw ht (by decide)
  obtain ⟨v, h5, h6⟩ := h3 0 _ rfl
  obtain ⟨u, h7, h8⟩ := h3 1 _ rfl
  match v, h5, h6, u, h7, h8 with
  | .inl x, h5, h6, .inl y, h7, h8 => exact tt_get hd hf h1 h7 (kk fs y h1 h7 h8.1 ((h4 rfl x y h5 h7).1 (hk fs x h1 h5)))
  | .inr none, _, h6, _, _, _ => exact h6.elim
  | .inr (some q), _, h6, _, _, _ => exact h6.elim
  | .inl x, _, _, .inr none, _, h8 => exact h8.elim
  | .inl x, _, _, .inr (some q), _, h8 => exact h8.elim
theorem tw_subjp {idx a : Nat} {ty : FieldType} {fin : Bool} (hd : decode M.2.1 pc = .ok (.getfield idx, 3)) (hf : tFd M.1 idx 1 1 ty fin) (hw : WT N pk τ h) (ht : τ[a]? = some 1) (hk : ∀ (fs : List tV) (x : Int32), h[a]? = some (.inr (.inr (1, fs))) → fs[0]? = some (.inl x) → x.toInt = 4)
    (kk : ∀ (fs : List tV) (x : Int32), h[a]? = some (.inr (.inr (1, fs))) → fs[1]? = some (.inl x) → 0 ≤ x.toInt → x.toInt ≤ pk - 1 → TT l D M Q kc ks (pc + 3) loc (.inl x :: st) h) : TT l D M Q kc ks pc loc (.inr (some a) :: st) h := by
  obtain ⟨fs, h1, h2, h3, h4⟩ := wt_obj hw ht (by decide)
  obtain ⟨v, h5, h6⟩ := h3 0 _ rfl
  obtain ⟨u, h7, h8⟩ := h3 1 _ rfl
  match v, h5, h6, u, h7, h8 with
  | .inl x, h5, h6, .inl y, h7, h8 =>
    have := (h4 rfl x y h5 h7).2 (hk fs x h1 h5)
    exact tt_get hd hf h1 h7 (kk fs y h1 h7 h8.1 (by omega))
  | .inr none, _, h6, _, _, _ => exact h6.elim
  | .inr (some q), _, h6, _, _, _ => exact h6.elim
  | .inl x, _, _, .inr none, _, h8 => exact h8.elim
  | .inl x, _, _, .inr (some q), _, h8 => exact h8.elim
end TWX
/-- what methods of the system keep: all of the reference; laid, up, attachedTo, routers and links, packetCount by WT -/
def PX (r j : Nat) : Bool := decide (29 ≤ r) || r == 7 || r == 8 || r == 9 || r == 10 || (r == 0 && decide (j ≤ 1)) || (r == 6 && j != 5)
/-- what methods of the reference keep: all of the system; laid, up, low, high, cost, attached -/
def PM (r j : Nat) : Bool := (decide (r < 30) && r != 7) || (decide (32 ≤ r) && decide (r ≤ 37)) || (r == 7 && j != 17)
