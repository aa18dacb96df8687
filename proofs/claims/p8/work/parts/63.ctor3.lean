section TC3
variable {l : Launch} {D : va_G} {M : tM} {Q : Nat → tL → List tV → List tC → Prop} {kc ks pc : Nat} {loc : tL} {st : List tV} {h : List tC}
variable {N : Nat} {pk : Int} {τ : List Nat}
theorem HH_last {a ci ci' : Nat} {fs fs' : List tV} {cs ds : List tC} {x : tC} : HH (HH h a ci fs (cs ++ [x])) (h.length + cs.length) ci' fs' ds = HH h a ci fs (cs ++ (.inr (.inr (ci', fs')) :: ds)) := by
  show (HH h a ci fs (cs ++ [x])).set (h.length + cs.length) _ ++ ds = _
  rw [HH_setn, HH_add]
  congr 1
  rw [List.set_append_right (h := Nat.le_refl _), Nat.sub_self]
  simp
abbrev queC (p : Nat) : tC := .inr (.inr (2, [.inr (some (p + 1)), .inl 0, .inl 0]))
abbrev csQ (p : Nat) : List tC := queC p :: arM (p + 2) 16 :: List.replicate 16 msg0
abbrev csL (n : Nat) : List tC := .inr (.inl (6, [some (n + 1), some (n + 19)])) :: (csQ (n + 1) ++ csQ (n + 19))
abbrev rhQ : List Nat := 2 :: 12 :: List.replicate 16 1
abbrev rhL : List Nat := 13 :: (rhQ ++ rhQ)
abbrev mX0_init : tM := (RX0, cX0_init, 2, 3, 61, true)
set_option maxHeartbeats 4000000 in
theorem g_X0_init (a : Nat) (ha0 : h[a]? = some lnk0) : TMc l D yX0_init cX0_init 2 none 3 61 37 232 [.inr (some a)] h (fun rv h' => h' = HH h a 0 [.inl 0, .inl 0, .inl 0, .inl 0, .inl 0, .inr (some h.length)] (csL h.length) ∧ rv = none) := by
  refine tmc_of true rfl (by decide) (Nat.le_of_ble_eq_true rfl) ?_
  suffices HQ : ∀ Q0, Q0 = tRt cX0_init none (fun rv h' => h' = HH h a 0 [.inl 0, .inl 0, .inl 0, .inl 0, .inl 0, .inr (some h.length)] (csL h.length) ∧ rv = none) → TT l D mX0_init Q0 37 232 0 [(0, .inr (some a))] [] (HH h a 0 [.inl 0, .inl 0, .inl 0, .inl 0, .inl 0, .inr none] []) by
    rw [← HH_id ha0] at HQ
    exact HQ _ rfl
  intro Q0 hQ
  have ha : a < h.length := t_at ha0
  have S : ∀ (kc ks : Nat) (x : Int32) (i : Nat) (rs : List (Option Nat)) (cs : List tC), x.toInt = i → i < 2 → rs.length = 2 → (∀ y : Int32, y.toInt = (i + 1 : Nat) → TT l D mX0_init Q0 kc ks 39 [(0, .inr (some a)), (1, .inl y)] [] (HH h a 0 [.inl 0, .inl 0, .inl 0, .inl 0, .inl 0, .inr (some h.length)] (.inr (.inl (6, rs.set i (some (h.length + 1 + cs.length)))) :: (cs ++ csQ (h.length + 1 + cs.length))))) → TT l D mX0_init Q0 (kc + 18) (ks + 115) 39 [(0, .inr (some a)), (1, .inl x)] [] (HH h a 0 [.inl 0, .inl 0, .inl 0, .inl 0, .inl 0, .inr (some h.length)] (.inr (.inl (6, rs)) :: cs)) := by
    intro kc ks x i rs cs hx hi hrs kk
    refine tt_iload_n (pc := 39) dX0_init_39 (.tail _ (.head _)) ?_
    refine tw_iconst (pc := 40) dX0_init_40 (by decide) (fun z hz => ?_)
    refine tw_icmp (tgt := 63) (pc := 41) dX0_init_41 (by decide) (fun c => ?_) (fun _ => ?_)
    · exfalso
      have c : x.toInt ≥ z.toInt := c
      omega
    refine tt_aload_n (pc := 44) dX0_init_44 (.head _) ?_
    refine cc_get (pc := 45) dX0_init_45 flX0_30 ha rfl ?_
    refine tt_iload_n (pc := 48) dX0_init_48 (.tail _ (.head _)) ?_
    refine cn_X2 (kc := kc + 17) (ks := ks + 112) (pc := 49) dX0_init_49 klX0_28 ?_
    refine tt_dup (pc := 52) dX0_init_52 ?_
    have eB : (HH h a 0 [.inl 0, .inl 0, .inl 0, .inl 0, .inl 0, .inr (some h.length)] (.inr (.inl (6, rs)) :: cs) ++ [que0])[(HH h a 0 [.inl 0, .inl 0, .inl 0, .inl 0, .inl 0, .inr (some h.length)] (.inr (.inl (6, rs)) :: cs)).length]? = some que0 := by simp
    refine tt_less (kc' := 17 + kc) (ks' := 112 + ks) (by omega) (by omega) ?_
    refine tt_callI (kc := kc) (ks := ks) (mc := 17) (ms := 112) (as := []) (pc := 53) dX0_init_53 lkX0_34 imX2_init rfl rfl (by decide) (by decide) (Nat.le_of_ble_eq_true rfl) (g_X2_init _ eB) (fun rv h9 q9 => ?_)
    obtain ⟨rfl, rfl⟩ := q9
    have e1 : HH (HH h a 0 [.inl 0, .inl 0, .inl 0, .inl 0, .inl 0, .inr (some h.length)] (.inr (.inl (6, rs)) :: cs) ++ [que0]) (HH h a 0 [.inl 0, .inl 0, .inl 0, .inl 0, .inl 0, .inr (some h.length)] (.inr (.inl (6, rs)) :: cs)).length 2 [.inr (some (HH h a 0 [.inl 0, .inl 0, .inl 0, .inl 0, .inl 0, .inr (some h.length)] (.inr (.inl (6, rs)) :: cs) ++ [que0]).length), .inl 0, .inl 0] (arM ((HH h a 0 [.inl 0, .inl 0, .inl 0, .inl 0, .inl 0, .inr (some h.length)] (.inr (.inl (6, rs)) :: cs) ++ [que0]).length + 1) 16 :: List.replicate 16 msg0) = HH h a 0 [.inl 0, .inl 0, .inl 0, .inl 0, .inl 0, .inr (some h.length)] (.inr (.inl (6, rs)) :: (cs ++ csQ (h.length + 1 + cs.length))) := by
      rw [HH_len, HH_add, HH_len, HH_last]
      have e2 : h.length + ((.inr (.inl (6, rs)) : tC) :: cs ++ [que0]).length = h.length + 1 + cs.length + 1 := by simp; omega
      rw [e2]
      rfl
    rw [e1]
    rw [HH_len]
    have e3 : h.length + ((.inr (.inl (6, rs)) : tC) :: cs).length = h.length + (cs.length + 1) := by simp
    rw [e3]
    have eA : (HH h a 0 [.inl 0, .inl 0, .inl 0, .inl 0, .inl 0, .inr (some h.length)] (.inr (.inl (6, rs)) :: (cs ++ csQ (h.length + 1 + cs.length))))[h.length]? = some (.inr (.inl (6, rs))) := by rw [show h.length = h.length + 0 from rfl, HH_new]; rfl
    have eC : (HH h a 0 [.inl 0, .inl 0, .inl 0, .inl 0, .inl 0, .inr (some h.length)] (.inr (.inl (6, rs)) :: (cs ++ csQ (h.length + 1 + cs.length))))[h.length + (cs.length + 1)]? = some (queC (h.length + 1 + cs.length)) := by
      rw [HH_new, List.getElem?_cons_succ, List.getElem?_append_right (Nat.le_refl _), Nat.sub_self]
      rfl
    refine tt_aast (pc := 56) (t := 6) (ci := 2) dX0_init_56 eA eC rfl rfl (i_nn (by omega)) (by rw [i_ix hx]; omega) ?_
    rw [i_ix hx]
    have eS : (HH h a 0 [.inl 0, .inl 0, .inl 0, .inl 0, .inl 0, .inr (some h.length)] (.inr (.inl (6, rs)) :: (cs ++ csQ (h.length + 1 + cs.length)))).set h.length (.inr (.inl (6, rs.set i (some (h.length + (cs.length + 1)))))) = HH h a 0 [.inl 0, .inl 0, .inl 0, .inl 0, .inl 0, .inr (some h.length)] (.inr (.inl (6, rs.set i (some (h.length + 1 + cs.length)))) :: (cs ++ csQ (h.length + 1 + cs.length))) := by
      rw [show (HH h a 0 [.inl 0, .inl 0, .inl 0, .inl 0, .inl 0, .inr (some h.length)] (.inr (.inl (6, rs)) :: (cs ++ csQ (h.length + 1 + cs.length)))).set h.length (.inr (.inl (6, rs.set i (some (h.length + (cs.length + 1)))))) = (HH h a 0 [.inl 0, .inl 0, .inl 0, .inl 0, .inl 0, .inr (some h.length)] (.inr (.inl (6, rs)) :: (cs ++ csQ (h.length + 1 + cs.length)))).set (h.length + 0) (.inr (.inl (6, rs.set i (some (h.length + (cs.length + 1)))))) from rfl, HH_setn, show h.length + (cs.length + 1) = h.length + 1 + cs.length by omega]
      rfl
    rw [eS]
    refine tw_iinc (pc := 57) dX0_init_57 (.tail _ (.head _)) (by decide) (by decide) (by omega) (fun y hy => ?_)
    refine tt_goto (tgt := 39) (pc := 60) dX0_init_60 (by decide) ?_
    refine tt_loc [(0, .inr (some a)), (1, .inl y)] (by simp [tSt]) ?_
    exact kk y (by omega)

  refine tt_aload_n (pc := 0) dX0_init_0 (.head _) ?_
  refine tt_obj (pc := 1) dX0_init_1 olX0_3 oi_obj oc_obj (by decide) (Nat.le_of_ble_eq_true rfl) ?_
  refine tt_aload_n (pc := 4) dX0_init_4 (.head _) ?_
  refine tt_iconst (pc := 5) dX0_init_5 ?_
  refine cc_put (pc := 6) dX0_init_6 flX0_9 (Or.inl rfl) ha (Nat.le_of_ble_eq_true rfl) rfl ?_
  refine tt_aload_n (pc := 9) dX0_init_9 (.head _) ?_
  refine tt_iconst (pc := 10) dX0_init_10 ?_
  refine cc_put (pc := 11) dX0_init_11 flX0_15 (Or.inl rfl) ha (Nat.le_of_ble_eq_true rfl) rfl ?_
  refine tt_aload_n (pc := 14) dX0_init_14 (.head _) ?_
  refine tt_iconst (pc := 15) dX0_init_15 ?_
  refine cc_put (pc := 16) dX0_init_16 flX0_18 (Or.inl rfl) ha (Nat.le_of_ble_eq_true rfl) rfl ?_
  refine tt_aload_n (pc := 19) dX0_init_19 (.head _) ?_
  refine tt_iconst (pc := 20) dX0_init_20 ?_
  refine cc_put (pc := 21) dX0_init_21 flX0_22 (Or.inl rfl) ha (Nat.le_of_ble_eq_true rfl) rfl ?_
  refine tt_aload_n (pc := 24) dX0_init_24 (.head _) ?_
  refine tt_iconst (pc := 25) dX0_init_25 ?_
  refine cc_put (pc := 26) dX0_init_26 flX0_25 (Or.inl rfl) ha (Nat.le_of_ble_eq_true rfl) rfl ?_
  refine tt_aload_n (pc := 29) dX0_init_29 (.head _) ?_
  refine tt_iconst (pc := 30) dX0_init_30 ?_
  refine cc_newq (pc := 31) (t := 6) (len := 2) dX0_init_31 rfl klX0_28 (fun U hU => hU.2.2.2.2.2.2.1) (by decide) (by decide) (by decide) ?_
  refine cc_put (pc := 34) dX0_init_34 flX0_30 (Or.inr ⟨rfl, _, _, rfl⟩) ha (Nat.le_of_ble_eq_true rfl) rfl ?_
  refine tw_iconst (pc := 37) dX0_init_37 (by decide) (fun z hz => ?_)
  refine tt_istore_n (pc := 38) dX0_init_38 (by decide) ?_
  refine tt_loc [(0, .inr (some a)), (1, .inl z)] (by simp [tSt]) ?_
  refine S 18 115 z 0 [none, none] [] (by omega) (by decide) rfl (fun y hy => ?_)
  refine S 0 0 y 1 _ _ (by omega) (by decide) rfl (fun y2 hy2 => ?_)
  refine tt_iload_n (pc := 39) dX0_init_39 (.tail _ (.head _)) ?_
  refine tw_iconst (pc := 40) dX0_init_40 (by decide) (fun z hz => ?_)
  refine tw_icmp (tgt := 63) (pc := 41) dX0_init_41 (by decide) (fun _ => ?_) (fun c => absurd (show y2.toInt ≥ z.toInt by omega) c)
  refine tt_stop ?_
  rw [hQ]
  exact Or.inl ⟨dX0_init_63, rfl, rfl, rfl, rfl⟩
/-- all these cells are as their roles say -/
def AC (N : Nat) (pk : Int) (τ ρ : List Nat) (cs : List tC) : Prop := cs.length = ρ.length ∧ ∀ (j r : Nat) (c : tC), ρ[j]? = some r → cs[j]? = some c → conf N pk τ r c
theorem AC.nil : AC N pk τ [] [] := ⟨rfl, fun j r c h => by simp at h⟩
theorem AC.cons {ρ : List Nat} {cs : List tC} {r : Nat} {c : tC} (h0 : conf N pk τ r c) (h1 : AC N pk τ ρ cs) : AC N pk τ (r :: ρ) (c :: cs) := by
  refine ⟨by simp [h1.1], fun j r' c' hr hc => ?_⟩
  match j, hr, hc with
  | 0, hr, hc => cases hr; cases hc; exact h0
  | j + 1, hr, hc => exact h1.2 j r' c' (by simpa using hr) (by simpa using hc)
theorem AC.app {ρ ρ' : List Nat} {cs cs' : List tC} (h0 : AC N pk τ ρ cs) (h1 : AC N pk τ ρ' cs') : AC N pk τ (ρ ++ ρ') (cs ++ cs') := by
  refine ⟨by simp [h0.1, h1.1], fun j r' c' hr hc => ?_⟩
  by_cases hl : j < ρ.length
  · rw [List.getElem?_append_left hl] at hr
    rw [List.getElem?_append_left (by rw [h0.1]; exact hl)] at hc
    exact h0.2 j r' c' hr hc
  · rw [List.getElem?_append_right (by omega)] at hr
    rw [List.getElem?_append_right (by rw [h0.1]; omega), h0.1] at hc
    exact h1.2 _ r' c' hr hc
theorem AC.rep {n r : Nat} {c : tC} (h0 : conf N pk τ r c) : AC N pk τ (List.replicate n r) (List.replicate n c) := by
  refine ⟨by simp, fun j r' c' hr hc => ?_⟩
  rw [← t_rep hr, ← t_rep hc]
  exact h0
theorem ac_born (hw : WT N pk τ h) {a ci : Nat} {fs : List tV} {ρ : List Nat} {cs : List tC} (ht : τ[a]? = some 29) (hci : ci < 6) (hm : ∀ r ∈ ρ, manyR r) (hc : AC N pk (τ ++ ρ) ρ cs) (h0 : conf N pk (τ.set a ci ++ ρ) ci (.inr (.inr (ci, fs)))) : WT N pk (τ.set a ci ++ ρ) (HH h a ci fs cs) := by
  have lt := t_at ht
  have w1 := wt_addL hw hc.1 hm (fun j r c h1 h2 _ => hc.2 j r c h1 h2)
  have w2 := wt_born (a := a) (r := ci) (c := .inr (.inr (ci, fs))) w1 (by rw [List.getElem?_append_left lt]; exact ht) (Or.inl hci) (by rw [List.set_append_left (h := lt)]; exact h0)
  rw [List.set_append_left (h := lt), List.set_append_left (h := by rw [hw.1]; exact lt)] at w2
  exact w2
theorem vz {lo hi : Int} (h : lo ≤ 0 ∧ 0 ≤ hi) : vty τ (.inl (lo, hi)) (.inl 0) := h
theorem conf_z {r t len : Nat} {lo hi : Int} (ht : t < 2) (ha : ats N r = some (t, len, .inl (lo, hi))) (hz : lo ≤ 0 ∧ 0 ≤ hi) : conf N pk τ r (.inl (t, List.replicate len 0)) :=
  ⟨ht, len, _, ha, by simp, fun x hx => by rw [List.eq_of_mem_replicate hx]; exact vz hz⟩
theorem conf_msg : conf N 0 τ 1 msg0 := by
  refine ⟨rfl, by decide, rfl, fun j ft v hj hv => ?_, fun _ x y hx hy => ?_⟩
  · match j, hj, hv with
    | 0, hj, hv => cases hj; cases hv; exact ⟨by decide, by decide⟩
    | 1, hj, hv => cases hj; cases hv; exact ⟨by decide, by decide⟩
    | 2, hj, hv => cases hj; cases hv; exact ⟨by decide, by decide⟩
    | 3, hj, hv => cases hj; cases hv; exact ⟨by decide, by decide⟩
    | 4, hj, hv => cases hj; cases hv; exact rfl
    | 5, hj, hv => cases hj; cases hv; exact ⟨by decide, by decide⟩
    | n + 6, hj, _ => simp [fts] at hj
  · cases hx; cases hy
    exact ⟨by decide, by decide⟩
theorem ac_Q {n : Nat} (h0 : ∀ j, j < 18 → τ[n + j]? = rhQ[j]?) : AC N 0 τ rhQ (csQ n) := by
  refine AC.cons ⟨rfl, by decide, rfl, fun j ft v hj hv => ?_, fun z => by cases z⟩ (AC.cons ⟨by decide, ⟨16, _, rfl, by simp, fun q hq => ?_⟩, fun z => by cases z⟩ (AC.rep conf_msg))
  · match j, hj, hv with
    | 0, hj, hv => cases hj; cases hv; exact h0 1 (by decide)
    | 1, hj, hv => cases hj; cases hv; exact ⟨by decide, by decide⟩
    | 2, hj, hv => cases hj; cases hv; exact ⟨by decide, by decide⟩
    | n + 3, hj, _ => simp [fts] at hj
  · obtain ⟨j, hj, rfl⟩ := List.mem_map.mp hq
    have hj := List.mem_range.mp hj
    rw [if_pos hj]
    show τ[n + 2 + j]? = some 1
    rw [Nat.add_assoc, h0 (2 + j) (by omega), Nat.add_comm 2 j]
    show (List.replicate 16 1)[j]? = some 1
    rw [List.getElem?_replicate, if_pos hj]
theorem rhQ_len : rhQ.length = 18 := rfl
theorem many_L : ∀ r ∈ rhL, manyR r := by decide
theorem wt_lnk (hw : WT N 0 τ h) (hN : 2 ≤ N) {a : Nat} (ht : τ[a]? = some 29) : WT N 0 (τ.set a 0 ++ rhL) (HH h a 0 [.inl 0, .inl 0, .inl 0, .inl 0, .inl 0, .inr (some h.length)] (csL h.length)) := by
  have lk : ∀ (τ0 : List Nat) (j : Nat), (τ0 ++ rhL)[τ0.length + j]? = rhL[j]? := fun τ0 j => by
    rw [List.getElem?_append_right (by omega)]
    congr 1
    omega
  rw [hw.1]
  refine ac_born hw ht (by decide) many_L (AC.cons ⟨by decide, ⟨2, _, rfl, rfl, fun q hq => ?_⟩, fun z => by cases z⟩ (AC.app (ac_Q fun j hj => ?_) (ac_Q fun j hj => ?_))) ⟨rfl, by decide, rfl, fun j ft v hj hv => ?_, fun z => by cases z⟩
  · simp at hq
    rcases hq with rfl | rfl
    · exact lk τ 1
    · exact lk τ 19
  · rw [show τ.length + 1 + j = τ.length + (j + 1) by omega, lk]
    show (rhQ ++ rhQ)[j]? = _
    rw [List.getElem?_append_left hj]
  · rw [show τ.length + 19 + j = τ.length + (18 + j + 1) by omega, lk]
    show (rhQ ++ rhQ)[18 + j]? = _
    rw [List.getElem?_append_right (by rw [rhQ_len]; omega), rhQ_len]
    congr 1
    omega
  · match j, hj, hv with
    | 0, hj, hv => cases hj; cases hv; exact ⟨by decide, by decide⟩
    | 1, hj, hv => cases hj; cases hv; exact ⟨by decide, by decide⟩
    | 2, hj, hv => cases hj; cases hv; exact vz ⟨by decide, by omega⟩
    | 3, hj, hv => cases hj; cases hv; exact vz ⟨by decide, by omega⟩
    | 4, hj, hv => cases hj; cases hv; exact ⟨by decide, by decide⟩
    | 5, hj, hv =>
      cases hj; cases hv
      show (τ.set a 0 ++ rhL)[τ.length]? = some 13
      have := lk (τ.set a 0) 0
      rw [List.length_set] at this
      exact this
    | n + 6, hj, _ => simp [fts] at hj
end TC3
