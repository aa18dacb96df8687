/-! rows on bits, shifts and unsigned numbers, to paste: each family out of a closed proof of our own, whole with what it rests on; each by itself clean at Lean in its own claim (generation 39, form 5). Take a family whole -/
/-! ===== Int32 by its bits: bt x i ===== -/
def bt (x : Int32) (i : Nat) : Bool := x.toBitVec.getLsbD i
theorem b_ext {x y : Int32} (h : ∀ i, i < 32 → bt x i = bt y i) : x = y := Int32.toBitVec_inj.mp (BitVec.eq_of_getLsbD_eq (fun i hi => h i hi))
theorem b_or (x y : Int32) (i : Nat) : bt (x ||| y) i = (bt x i || bt y i) := by unfold bt; rw [Int32.toBitVec_or, BitVec.getLsbD_or]
theorem b_and (x y : Int32) (i : Nat) : bt (x &&& y) i = (bt x i && bt y i) := by unfold bt; rw [Int32.toBitVec_and, BitVec.getLsbD_and]
theorem b_xor (x y : Int32) (i : Nat) : bt (x ^^^ y) i = (bt x i ^^ bt y i) := by unfold bt; rw [Int32.toBitVec_xor, BitVec.getLsbD_xor]
theorem b_big {x : Int32} {i : Nat} (h : 32 ≤ i) : bt x i = false := BitVec.getLsbD_of_ge _ _ h
theorem b_255 (i : Nat) : bt 255 i = decide (i < 8) := by
  rcases Nat.lt_or_ge i 32 with h | h
  · exact (by decide +kernel : ∀ i, i < 32 → bt 255 i = decide (i < 8)) i h
  · rw [b_big h, decide_eq_false (by omega)]
theorem b_65535 (i : Nat) : bt 65535 i = decide (i < 16) := by
  rcases Nat.lt_or_ge i 32 with h | h
  · exact (by decide +kernel : ∀ i, i < 32 → bt 65535 i = decide (i < 16)) i h
  · rw [b_big h, decide_eq_false (by omega)]
theorem b_m1 : ∀ i, i < 32 → bt (-1) i = true := by decide +kernel
theorem b_0 (i : Nat) : bt 0 i = false := BitVec.getLsbD_zero
theorem s_l : ∀ n, n < 32 → ((nI n &&& 31).toBitVec.smod 32).toNat = n := by decide +kernel
theorem s_u : ∀ n, n < 32 → (((nI n).toUInt32 &&& Int32.toUInt32 31).toBitVec % 32).toNat = n := by decide +kernel
theorem b_shl (n : Nat) (hn : n < 32) (x : Int32) {i : Nat} (hi : i < 32) : bt (x <<< (nI n &&& 31)) i = (decide (n ≤ i) && bt x (i - n)) := by
  unfold bt
  rw [Int32.toBitVec_shiftLeft]
  show (x.toBitVec <<< ((nI n &&& 31).toBitVec.smod 32).toNat).getLsbD i = _
  rw [s_l n hn, BitVec.getLsbD_shiftLeft]
  rcases Nat.lt_or_ge i n with h | h
  · simp [h, Nat.not_le.mpr h]
  · simp [hi, h, Nat.not_lt.mpr h]
theorem b_ushr (n : Nat) (hn : n < 32) (x : Int32) (i : Nat) : bt ((x.toUInt32 >>> ((nI n).toUInt32 &&& Int32.toUInt32 31)).toInt32) i = bt x (n + i) := by
  show (x.toUInt32 >>> ((nI n).toUInt32 &&& Int32.toUInt32 31)).toBitVec.getLsbD i = x.toUInt32.toBitVec.getLsbD (n + i)
  rw [UInt32.toBitVec_shiftRight]
  show (x.toUInt32.toBitVec >>> (((nI n).toUInt32 &&& Int32.toUInt32 31).toBitVec % 32).toNat).getLsbD i = _
  rw [s_u n hn, BitVec.getLsbD_ushiftRight]
theorem b_sshr (n : Nat) (hn : n < 32) (x : Int32) {i : Nat} (hi : i < 32) : bt (x >>> (nI n &&& 31)) i = if n + i < 32 then bt x (n + i) else bt x 31 := by
  unfold bt
  rw [Int32.toBitVec_shiftRight]
  show (x.toBitVec.sshiftRight ((nI n &&& 31).toBitVec.smod 32).toNat).getLsbD i = _
  rw [s_l n hn, BitVec.getLsbD_sshiftRight, BitVec.msb_eq_getLsbD_last]
  simp [hi]
theorem b_shl8 (x : Int32) {i : Nat} (hi : i < 32) : bt (x <<< ((8 : Int32) &&& 31)) i = (decide (8 ≤ i) && bt x (i - 8)) := b_shl 8 (by omega) x hi
theorem b_shl16 (x : Int32) {i : Nat} (hi : i < 32) : bt (x <<< ((16 : Int32) &&& 31)) i = (decide (16 ≤ i) && bt x (i - 16)) := b_shl 16 (by omega) x hi
theorem b_shl24 (x : Int32) {i : Nat} (hi : i < 32) : bt (x <<< ((24 : Int32) &&& 31)) i = (decide (24 ≤ i) && bt x (i - 24)) := b_shl 24 (by omega) x hi
theorem b_sshr8 (x : Int32) {i : Nat} (hi : i < 32) : bt (x >>> ((8 : Int32) &&& 31)) i = if 8 + i < 32 then bt x (8 + i) else bt x 31 := b_sshr 8 (by omega) x hi
/-! ===== nI under and, xor, >>>, one bit, 65535 ===== -/
theorem bt_1 : ∀ i, i < 32 → bt 1 i = decide (i = 0) := by decide +kernel
theorem and_1 (x : Int32) : x &&& 1 = if bt x 0 = true then 1 else 0 := by
  split
  · rename_i h
    apply b_ext
    intro i hi
    rw [b_and, bt_1 i hi]
    by_cases e : i = 0
    · subst e; simp [h]
    · simp [e]
  · rename_i h
    apply b_ext
    intro i hi
    rw [b_and, bt_1 i hi, b_0]
    by_cases e : i = 0
    · subst e; simp at h; simp [h]
    · simp [e]
theorem nI_eq9 {x : Int32} {n : Nat} (hn : n < 2147483648) (h : x.toInt = n) : x = nI n := Int32.toInt_inj.mp (by
  rw [h]
  have : (nI n).toInt = n := Int32.toInt_ofNat_of_lt hn
  exact this.symm)
theorem bit_bt {k li : Int32} {l : Nat} (hl : l < 32) (h : li.toInt = l) : BIT k li ↔ bt k l = true := by
  have e := nI_eq9 (by omega) h
  subst e
  unfold BIT
  rw [and_1, b_sshr l hl k (i := 0) (by decide)]
  simp only [Nat.add_zero, if_pos hl]
  by_cases c : bt k l = true
  · rw [if_pos c]
    exact ⟨fun _ => c, fun _ => rfl⟩
  · rw [if_neg c]
    exact ⟨fun z => by simp at z, fun z => absurd z c⟩
theorem bit_or {x y li : Int32} {l : Nat} (hl : l < 32) (h : li.toInt = l) (b : BIT (x ||| y) li) : BIT x li ∨ BIT y li := by
  rw [bit_bt hl h] at b ⊢
  rw [bit_bt hl h]
  rw [b_or] at b
  simpa using b
theorem bit_0 {li : Int32} {l : Nat} (hl : l < 32) (h : li.toInt = l) : ¬ BIT 0 li := by
  rw [bit_bt hl h, b_0]
  simp
theorem bit_1 {j li : Int32} {l m : Nat} (hl : l < 32) (h : li.toInt = l) (hm : m < 32) (hj : j.toInt = m) (b : BIT (1 <<< (j &&& 31)) li) : l = m := by
  rw [bit_bt hl h] at b
  have e := nI_eq9 (by omega) hj
  subst e
  rw [b_shl m hm 1 hl] at b
  simp at b
  rw [bt_1 _ (by omega)] at b
  simp at b
  omega
section TTL
variable {h h' : List tC} {N : Nat} {pk : Int} {τ : List Nat} {P : Nat → Nat → Bool}
/-- .. of one router -/
def I1r (τ : List Nat) (h : List tC) (r : Nat) : Prop := ∀ (l : Nat) (li k lo hi u : Int32), l < 12 → li.toInt = l → ARV τ h 39 (9 * r) k → BIT k li → ARV τ h 33 l u → ARV τ h 34 l lo → ARV τ h 35 l hi → u.toInt ≠ 0 ∧ (lo.toInt = r ∨ hi.toInt = r)
theorem i1_iff : I1 τ h ↔ ∀ r, r < 8 → I1r τ h r := ⟨fun a r hr l li k lo hi u hl hli => a r l li k lo hi u hr hl hli, fun a r l li k lo hi u hr hl hli => a r hr l li k lo hi u hl hli⟩
theorem i1r_fr (f : Fr P τ h h') (p1 : P 39 0 = true) (p2 : P 33 0 = true) (p3 : P 34 0 = true) (p4 : P 35 0 = true) {r : Nat} (hI : I1r τ h r) : I1r τ h' r :=
  fun l li k lo hi u hl hli a b c d e => hI l li k lo hi u hl hli (a.back f p1) b (c.back f p2) (d.back f p3) (e.back f p4)
theorem i1r_set (hu : UQ τ) (f : Fr (PEX 39) τ h h') {k0 i : Nat} {ks : List Int32} {x : Int32} (tk : τ[k0]? = some 39) (e : h[k0]? = some (.inl (0, ks))) (g : h'[k0]? = some (.inl (0, ks.set i x))) {r : Nat} (hi : i ≠ 9 * r) (hI : I1r τ h r) : I1r τ h' r := by
  intro l li k lo hi' u hl hli a b c d e'
  obtain ⟨k1, t, xs, a1, a2, a3⟩ := a
  have ek := hu k1 k0 39 (by decide) a1 tk
  subst ek
  rw [g] at a2
  cases a2
  rw [List.getElem?_set_ne hi] at a3
  exact hI l li k lo hi' u hl hli ⟨k1, 0, ks, tk, e, a3⟩ b (c.back f (by decide)) (d.back f (by decide)) (e'.back f (by decide))
/-- bits of links whose end r is up, among the first n -/
def UPB (τ : List Nat) (h : List tC) (r : Nat) (n : Int) (x : Int32) : Prop := ∀ (l : Nat) (li u lo hi : Int32), l < 12 → li.toInt = l → BIT x li → (l : Int) < n ∧ (ARV τ h 33 l u → ARV τ h 34 l lo → ARV τ h 35 l hi → u.toInt ≠ 0 ∧ (lo.toInt = r ∨ hi.toInt = r))
theorem upb_0 {r : Nat} {n : Int} {x : Int32} (hx : x.toInt = 0) : UPB τ h r n x := fun l li u lo hi hl hli b => by
  have e : x = 0 := Int32.toInt_inj.mp hx
  subst e
  exact absurd b (bit_0 (by omega) hli)
theorem upb_fr (f : Fr P τ h h') (p2 : P 33 0 = true) (p3 : P 34 0 = true) (p4 : P 35 0 = true) {r : Nat} {n : Int} {x : Int32} (a : UPB τ h r n x) : UPB τ h' r n x := fun l li u lo hi hl hli b =>
  ⟨(a l li u lo hi hl hli b).1, fun c d e => (a l li u lo hi hl hli b).2 (c.back f p2) (d.back f p3) (e.back f p4)⟩
theorem upb_own (hu : UQ τ) (f : Fr (PEX 39) τ h h') {k0 i r : Nat} {ks : List Int32} {x : Int32} (tk : τ[k0]? = some 39) (g : h'[k0]? = some (.inl (0, ks.set i x))) (hi : i = 9 * r) (hlt : i < ks.length) {n : Int} (a : UPB τ h r n x) : I1r τ h' r := by
  intro l li k lo hi' u hl hli ak b c d e
  obtain ⟨k1, t, xs, a1, a2, a3⟩ := ak
  have ek := hu k1 k0 39 (by decide) a1 tk
  subst ek
  rw [g] at a2
  cases a2
  rw [← hi, List.getElem?_set_self hlt] at a3
  cases a3
  exact (a l li u lo hi' hl hli b).2 (c.back f (by decide)) (d.back f (by decide)) (e.back f (by decide))
end TTL
