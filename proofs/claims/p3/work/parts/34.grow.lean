section TGR
variable {l : Launch} {D : va_G} {M : tM} {Q : Nat → tL → List tV → List tC → Prop} {kc ks pc : Nat} {loc : tL} {st : List tV} {h : List tC}
variable {N : Nat} {pk : Int} {τ : List Nat} {P : Nat → Nat → Bool}
theorem vty_up {τ τ' : List Nat} (hp : tPre τ τ') {ft : tF} {v : tV} (h : vty τ ft v) : vty τ' ft v := by
  match ft, v, h with
  | .inl (lo, hi), .inl x, h => exact h
  | .inr (r, nu), .inr none, h => exact h
  | .inr (r, nu), .inr (some q), h => exact tup hp h
theorem conf_up {τ τ' : List Nat} (hp : tPre τ τ') {r : Nat} {c : tC} (h : conf N pk τ r c) : conf N pk τ' r c := by
  match c, h with
  | .inl (t, xs), ⟨h1, len, ft, h2, h3, h4⟩ => exact ⟨h1, len, ft, h2, h3, fun x hx => vty_up hp (h4 x hx)⟩
  | .inr (.inl (t, rs)), ⟨h1, ⟨len, ft, h2, h3, h4⟩, h5⟩ => exact ⟨h1, ⟨len, ft, h2, h3, fun q hq => vty_up hp (h4 q hq)⟩, h5⟩
  | .inr (.inr (ci, fs)), ⟨h1, h2, h3, h4, h5⟩ => exact ⟨h1, h2, h3, fun j ft v hj hv => vty_up hp (h4 j ft v hj hv), h5⟩
/-- a cell more -/
theorem wt_add (hw : WT N pk τ h) {r : Nat} {c : tC} (hr : r < 6) (hc : conf N pk (τ ++ [r]) r c) : WT N pk (τ ++ [r]) (h ++ [c]) := by
  have hp : tPre τ (τ ++ [r]) := ⟨[r], rfl⟩
  have key : ∀ {k r' : Nat}, (τ ++ [r])[k]? = some r' → r' ≠ r → τ[k]? = some r' := by
    intro k r' hk hne
    by_cases hl : k < τ.length
    · rw [List.getElem?_append_left hl] at hk
      exact hk
    · rw [List.getElem?_append_right (by omega)] at hk
      have h0 := t_at hk
      have e0 : k - τ.length = 0 := by simp at h0; omega
      rw [e0] at hk
      simp at hk
      exact absurd hk.symm hne
  have old : ∀ {k r' : Nat} {c' : tC}, τ[k]? = some r' → (h ++ [c])[k]? = some c' → h[k]? = some c' := by
    intro k r' c' hk hc'
    rw [List.getElem?_append_left (by rw [hw.1]; exact t_at hk)] at hc'
    exact hc'
  refine ⟨by simp [hw.1], fun k r' c' hk hc' h29 => ?_, fun ka kw kv xs ys zs h1 h2 h3 g1 g2 g3 => ?_, fun k k' r' h30 h1 h2 => ?_⟩
  · by_cases hl : k < τ.length
    · rw [List.getElem?_append_left hl] at hk
      exact conf_up hp (hw.2.1 k r' c' hk (old hk hc') h29)
    · have h0 := t_at hk
      have e0 : k = τ.length := by simp at h0; omega
      subst e0
      rw [List.getElem?_append_right (Nat.le_refl _)] at hk
      rw [List.getElem?_append_right (by rw [hw.1]; exact Nat.le_refl _), hw.1] at hc'
      simp at hk hc'
      subst hk; subst hc'
      exact hc
  · have h1' := key h1 (by omega)
    have h2' := key h2 (by omega)
    have h3' := key h3 (by omega)
    exact hw.2.2.1 ka kw kv xs ys zs h1' h2' h3' (old h1' g1) (old h2' g2) (old h3' g3)
  · exact hw.2.2.2 k k' r' h30 (key h1 (by omega)) (key h2 (by omega))
theorem fr_add (hlen : h.length = τ.length) {c : tC} : Fr P τ h (h ++ [c]) := by
  intro k r hk
  have e : (h ++ [c])[k]? = h[k]? := List.getElem?_append_left (by rw [hlen]; exact t_at hk)
  exact ⟨fun ci fs hf => ⟨fs, by rw [e]; exact hf, fun _ _ => rfl⟩, fun hn => ⟨fun ci fs => by rw [e]; exact hn ci fs, fun _ => e⟩⟩
theorem tlast_at (τ : List Nat) (r : Nat) : (τ ++ [r])[τ.length]? = some r := by simp
/-- a record that a router says of itself -/
theorem tw_newR {idx : Nat} (hd : decode M.2.1 pc = .ok (.new idx, 3)) (h1 : Cond.classLink M.1 idx RX5 ∈ lw_good) (hw : WT N pk τ h)
    (kk : ∀ (q : Nat) (h' : List tC), (τ ++ [5])[q]? = some 5 → WT N pk (τ ++ [5]) h' → Fr P τ h h' → TT l D M Q kc ks (pc + 3) loc (.inr (some q) :: st) h') : TT l D M Q (kc + 1) (ks + 4) pc loc st h := by
  refine tt_new (ci := 5) (tfs := [.inl 0, .inl 0, .inl 0, .inl 0]) (fsV := [.int 0, .int 0, .int 0, .int 0]) hd clX5 h1 knX5 kiX5 (fun j hj ty hty => ?_) (fun as => ⟨_, _, rfl, rfl, _, _, rfl, rfl, _, _, rfl, rfl, _, _, rfl, rfl, rfl⟩) (kk h.length _ (by rw [hw.1]; exact tlast_at τ 5) (wt_add hw (by decide) ⟨rfl, by decide, rfl, fun j ft v hj hv => ?_, fun z => by cases z⟩) (fr_add hw.1))
  · rw [tyX5_ok j hj] at hty
    cases hty
    match j, hj with
    | 0, _ => rfl
    | 1, _ => rfl
    | 2, _ => rfl
    | 3, _ => rfl
  · match j, hj, hv with
    | 0, hj, hv => cases hj; cases hv; exact ⟨by decide, by decide⟩
    | 1, hj, hv => cases hj; cases hv; exact ⟨by decide, by decide⟩
    | 2, hj, hv => cases hj; cases hv; exact ⟨by decide, by decide⟩
    | 3, hj, hv => cases hj; cases hv; exact ⟨by decide, by decide⟩
    | n + 4, hj, _ => simp [fts] at hj
theorem tw_putF {idx ci k a N' : Nat} {T : u_T} {ty : FieldType} {ft : tF} {v : tV} (hd : decode M.2.1 pc = .ok (.putfield idx, 3)) (hf : tFd M.1 idx ci k ty true) (hi : M.2.2.2.2.2 = true) (hC : vwCl[ci]? = some (M.1, T, N')) (hw : WT N pk τ h) (ht : τ[a]? = some ci) (hc : ci < 8) (hft : (fts N pk ci)[k]? = some ft) (hv : vty τ ft v) (hvt : tfits ty v = true) (hm : ci = 1 → 2 ≤ k) (hp : P ci k = false)
    (kk : ∀ (fs : List tV) (h' : List tC), h[a]? = some (.inr (.inr (ci, fs))) → h'[a]? = some (.inr (.inr (ci, fs.set k v))) → k < fs.length → WT N pk τ h' → Fr P τ h h' → TT l D M Q kc ks (pc + 3) loc st h') : TT l D M Q kc ks pc loc (v :: .inr (some a) :: st) h := by
  obtain ⟨fs, h1, h2, h3, h4⟩ := wt_obj hw ht hc
  have hk : k < fs.length := by rw [h2]; exact t_at hft
  exact tt_put hd hf (Or.inr ⟨hi, T, N', hC⟩) h1 hk hvt (kk fs _ h1 (List.getElem?_set_self (t_at h1)) hk (wt_puto hw ht hc h1 hft hv hm) (fr_puto hw.1 ht h1 hp))
/-- a packet -/
theorem tw_newP {idx : Nat} (hd : decode M.2.1 pc = .ok (.new idx, 3)) (h1 : Cond.classLink M.1 idx RX3 ∈ lw_good) (hw : WT N pk τ h)
    (kk : ∀ (q : Nat) (h' : List tC), (τ ++ [3])[q]? = some 3 → WT N pk (τ ++ [3]) h' → Fr P τ h h' → TT l D M Q kc ks (pc + 3) loc (.inr (some q) :: st) h') : TT l D M Q (kc + 1) (ks + 5) pc loc st h := by
  refine tt_new (ci := 3) (tfs := [.inl 0, .inl 0, .inl 0, .inl 0, .inl 0]) (fsV := [.int 0, .int 0, .int 0, .int 0, .int 0]) hd clX3 h1 knX3 kiX3 (fun j hj ty hty => ?_) (fun as => ⟨_, _, rfl, rfl, _, _, rfl, rfl, _, _, rfl, rfl, _, _, rfl, rfl, _, _, rfl, rfl, rfl⟩) (kk h.length _ (by rw [hw.1]; exact tlast_at τ 3) (wt_add hw (by decide) ⟨rfl, by decide, rfl, fun j ft v hj hv => ?_, fun z => by cases z⟩) (fr_add hw.1))
  · rw [tyX3_ok j hj] at hty
    cases hty
    match j, hj with
    | 0, _ => rfl
    | 1, _ => rfl
    | 2, _ => rfl
    | 3, _ => rfl
    | 4, _ => rfl
  · match j, hj, hv with
    | 0, hj, hv => cases hj; cases hv; exact ⟨by decide, by decide⟩
    | 1, hj, hv => cases hj; cases hv; exact ⟨by decide, by decide⟩
    | 2, hj, hv => cases hj; cases hv; exact ⟨by decide, by decide⟩
    | 3, hj, hv => cases hj; cases hv; exact ⟨by decide, by decide⟩
    | 4, hj, hv => cases hj; cases hv; exact ⟨by decide, by decide⟩
    | n + 5, hj, _ => simp [fts] at hj
/-- a packet more -/
theorem wt_pk (hw : WT N pk τ h) {px ka : Nat} (tx : τ[px]? = some 6) (ta : τ[ka]? = some 11) {fs : List tV} (hf : h[px]? = some (.inr (.inr (6, fs)))) {rs : List (Option Nat)} (hr : h[ka]? = some (.inr (.inl (4, rs)))) {n q : Nat} (hn : (n : Int) = pk) (hq : rs[n]? = some (some q)) {x : Int32} (hx : x.toInt = pk + 1) :
    WT N (pk + 1) τ (h.set px (.inr (.inr (6, fs.set 4 (.inl x))))) := by
  have lx := t_at hf
  have nka : px ≠ ka := fun z => by subst z; rw [tx] at ta; cases ta
  have old := hw.2.1 px 6 _ tx hf (by decide)
  refine ⟨by rw [List.length_set]; exact hw.1, fun k r c hk hc h29 => ?_, fun a b c xs ys zs h1 h2 h3 g1 g2 g3 => ?_, hw.2.2.2⟩
  · by_cases e : px = k
    · subst e
      rw [tx] at hk
      cases hk
      rw [List.getElem?_set_self lx] at hc
      cases hc
      obtain ⟨-, -, o3, o4, o5⟩ := old
      refine ⟨rfl, by decide, by rw [List.length_set]; exact o3, fun j ft v hj hv => ?_, fun z => by cases z⟩
      by_cases e4 : 4 = j
      · subst e4
        rw [List.getElem?_set_self (by rw [o3]; exact Nat.le_of_ble_eq_true rfl)] at hv
        cases hv
        cases hj
        exact ⟨by omega, by omega⟩
      · rw [List.getElem?_set_ne e4] at hv
        refine o4 j ft v ?_ hv
        match j, hj, e4 with
        | 0, hj, _ => exact hj
        | 1, hj, _ => exact hj
        | 2, hj, _ => exact hj
        | 3, hj, _ => exact hj
        | 4, _, e4 => exact absurd rfl e4
        | 5, hj, _ => exact hj
        | 6, hj, _ => exact hj
        | n + 7, hj, _ => simp [fts] at hj
    · rw [List.getElem?_set_ne e] at hc
      have o := hw.2.1 k r c hk hc h29
      match c, o, hc with
      | .inl (t, xs), o, _ => exact o
      | .inr (.inl (t, rs')), ⟨o1, o2, o3⟩, hc =>
        refine ⟨o1, o2, fun er j hj => ?_⟩
        subst er
        have ek := hw.2.2.2 k ka 11 (by decide) hk ta
        subst ek
        rw [hr] at hc
        cases hc
        have g := o3 rfl j hj
        have hne : j ≠ n := fun z => by subst z; rw [hq] at hj; cases hj
        omega
      | .inr (.inr (ci, fs')), ⟨o1, o2, o3, o4, o5⟩, hc =>
        have hci : ci ≠ 6 := fun z => e (by
          subst z
          subst o1
          exact hw.2.2.2 px k 6 (by decide) tx hk)
        have eft : fts N (pk + 1) ci = fts N pk ci := by
          match ci, o2, hci with
          | 0, _, _ => rfl
          | 1, _, _ => rfl
          | 2, _, _ => rfl
          | 3, _, _ => rfl
          | 4, _, _ => rfl
          | 5, _, _ => rfl
          | 6, _, z => exact absurd rfl z
          | 7, _, _ => rfl
        refine ⟨o1, o2, by rw [eft]; exact o3, by rw [eft]; exact o4, fun z x y hx hy => ?_⟩
        have := o5 z x y hx hy
        exact ⟨this.1, fun w => by have := this.2 w; omega⟩
  · have e1 : px ≠ a := fun z => by subst z; rw [tx] at h1; cases h1
    have e2 : px ≠ b := fun z => by subst z; rw [tx] at h2; cases h2
    have e3 : px ≠ c := fun z => by subst z; rw [tx] at h3; cases h3
    rw [List.getElem?_set_ne e1] at g1
    rw [List.getElem?_set_ne e2] at g2
    rw [List.getElem?_set_ne e3] at g3
    exact hw.2.2.1 a b c xs ys zs h1 h2 h3 g1 g2 g3
def PXi (r j : Nat) : Bool := PX r j && !(r == 6 && j == 4)
theorem weak_PX_PXi : ∀ r j, PXi r j = true → PX r j = true := fun r j h => by simp [PXi] at h; exact h.1
def PXt (r j : Nat) : Bool := PX r j && !(r == 0 && j == 1)
def PXa (r j : Nat) : Bool := PX r j && !(r == 10)
theorem weak_PX_PXt : ∀ r j, PXt r j = true → PX r j = true := fun r j h => by simp [PXt] at h; exact h.1
theorem weak_PX_PXa : ∀ r j, PXa r j = true → PX r j = true := fun r j h => by simp [PXa] at h; exact h.1
end TGR
