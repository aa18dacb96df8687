section TC2
variable {l : Launch} {D : va_G} {M : tM} {Q : Nat → tL → List tV → List tC → Prop} {kc ks pc : Nat} {loc : tL} {st : List tV} {h : List tC}
variable {N : Nat} {τ : List Nat}
theorem i_ix {x : Int32} {i : Nat} (h : x.toInt = i) : x.toNatClampNeg = i := by show x.toInt.toNat = i; omega

abbrev lnk0 : tC := .inr (.inr (0, [.inl 0, .inl 0, .inl 0, .inl 0, .inl 0, .inr none]))
theorem cn_X0 {idx : Nat} (hd : decode M.2.1 pc = .ok (.new idx, 3)) (h1 : Cond.classLink M.1 idx RX0 ∈ lw_good) (kk : TT l D M Q kc ks (pc + 3) loc (.inr (some h.length) :: st) (h ++ [lnk0])) : TT l D M Q (kc + 1) (ks + 6) pc loc st h := by
  refine tt_new (ci := 0) (tfs := [.inl 0, .inl 0, .inl 0, .inl 0, .inl 0, .inr none]) (fsV := [.int 0, .int 0, .int 0, .int 0, .int 0, .null]) hd clX0 h1 knX0 kiX0 (fun j hj ty hty => ?_) (fun as => ⟨_, _, rfl, rfl, _, _, rfl, rfl, _, _, rfl, rfl, _, _, rfl, rfl, _, _, rfl, rfl, _, _, rfl, rfl, rfl⟩) kk
  rw [tyX0_ok j hj] at hty
  cases hty
  match j, hj with
  | 0, _ => rfl
  | 1, _ => rfl
  | 2, _ => rfl
  | 3, _ => rfl
  | 4, _ => rfl
  | 5, _ => rfl
abbrev msg0 : tC := .inr (.inr (1, [.inl 0, .inl 0, .inl 0, .inl 0, .inr none, .inl 0]))
theorem cn_X1 {idx : Nat} (hd : decode M.2.1 pc = .ok (.new idx, 3)) (h1 : Cond.classLink M.1 idx RX1 ∈ lw_good) (kk : TT l D M Q kc ks (pc + 3) loc (.inr (some h.length) :: st) (h ++ [msg0])) : TT l D M Q (kc + 1) (ks + 6) pc loc st h := by
  refine tt_new (ci := 1) (tfs := [.inl 0, .inl 0, .inl 0, .inl 0, .inr none, .inl 0]) (fsV := [.int 0, .int 0, .int 0, .int 0, .null, .int 0]) hd clX1 h1 knX1 kiX1 (fun j hj ty hty => ?_) (fun as => ⟨_, _, rfl, rfl, _, _, rfl, rfl, _, _, rfl, rfl, _, _, rfl, rfl, _, _, rfl, rfl, _, _, rfl, rfl, rfl⟩) kk
  rw [tyX1_ok j hj] at hty
  cases hty
  match j, hj with
  | 0, _ => rfl
  | 1, _ => rfl
  | 2, _ => rfl
  | 3, _ => rfl
  | 4, _ => rfl
  | 5, _ => rfl
abbrev que0 : tC := .inr (.inr (2, [.inr none, .inl 0, .inl 0]))
theorem cn_X2 {idx : Nat} (hd : decode M.2.1 pc = .ok (.new idx, 3)) (h1 : Cond.classLink M.1 idx RX2 ∈ lw_good) (kk : TT l D M Q kc ks (pc + 3) loc (.inr (some h.length) :: st) (h ++ [que0])) : TT l D M Q (kc + 1) (ks + 3) pc loc st h := by
  refine tt_new (ci := 2) (tfs := [.inr none, .inl 0, .inl 0]) (fsV := [.null, .int 0, .int 0]) hd clX2 h1 knX2 kiX2 (fun j hj ty hty => ?_) (fun as => ⟨_, _, rfl, rfl, _, _, rfl, rfl, _, _, rfl, rfl, rfl⟩) kk
  rw [tyX2_ok j hj] at hty
  cases hty
  match j, hj with
  | 0, _ => rfl
  | 1, _ => rfl
  | 2, _ => rfl
abbrev rtr0 : tC := .inr (.inr (4, [.inl 0, .inr none, .inr none, .inr none, .inr none, .inr none, .inr none, .inr none, .inr none]))
theorem cn_X4 {idx : Nat} (hd : decode M.2.1 pc = .ok (.new idx, 3)) (h1 : Cond.classLink M.1 idx RX4 ∈ lw_good) (kk : TT l D M Q kc ks (pc + 3) loc (.inr (some h.length) :: st) (h ++ [rtr0])) : TT l D M Q (kc + 1) (ks + 9) pc loc st h := by
  refine tt_new (ci := 4) (tfs := [.inl 0, .inr none, .inr none, .inr none, .inr none, .inr none, .inr none, .inr none, .inr none]) (fsV := [.int 0, .null, .null, .null, .null, .null, .null, .null, .null]) hd clX4 h1 knX4 kiX4 (fun j hj ty hty => ?_) (fun as => ⟨_, _, rfl, rfl, _, _, rfl, rfl, _, _, rfl, rfl, _, _, rfl, rfl, _, _, rfl, rfl, _, _, rfl, rfl, _, _, rfl, rfl, _, _, rfl, rfl, _, _, rfl, rfl, rfl⟩) kk
  rw [tyX4_ok j hj] at hty
  cases hty
  match j, hj with
  | 0, _ => rfl
  | 1, _ => rfl
  | 2, _ => rfl
  | 3, _ => rfl
  | 4, _ => rfl
  | 5, _ => rfl
  | 6, _ => rfl
  | 7, _ => rfl
  | 8, _ => rfl
abbrev rec0 : tC := .inr (.inr (5, [.inl 0, .inl 0, .inl 0, .inl 0]))
theorem cn_X5 {idx : Nat} (hd : decode M.2.1 pc = .ok (.new idx, 3)) (h1 : Cond.classLink M.1 idx RX5 ∈ lw_good) (kk : TT l D M Q kc ks (pc + 3) loc (.inr (some h.length) :: st) (h ++ [rec0])) : TT l D M Q (kc + 1) (ks + 4) pc loc st h := by
  refine tt_new (ci := 5) (tfs := [.inl 0, .inl 0, .inl 0, .inl 0]) (fsV := [.int 0, .int 0, .int 0, .int 0]) hd clX5 h1 knX5 kiX5 (fun j hj ty hty => ?_) (fun as => ⟨_, _, rfl, rfl, _, _, rfl, rfl, _, _, rfl, rfl, _, _, rfl, rfl, rfl⟩) kk
  rw [tyX5_ok j hj] at hty
  cases hty
  match j, hj with
  | 0, _ => rfl
  | 1, _ => rfl
  | 2, _ => rfl
  | 3, _ => rfl
abbrev mX1_init : tM := (RX1, cX1_init, 1, 1, 20, true)
theorem g_X1_init (a : Nat) : TMc l D yX1_init cX1_init 1 none 1 20 0 0 [.inr (some a)] h (fun rv h' => h = h' ∧ rv = none) := by
  refine tmc_of true rfl (by decide) (Nat.le_of_ble_eq_true rfl) ?_
  refine tt_aload_n (pc := 0) dX1_init_0 (.head _) ?_
  refine tt_obj (M := mX1_init) (pc := 1) dX1_init_1 olX1_3 oi_obj oc_obj (by decide) (Nat.le_of_ble_eq_true rfl) ?_
  exact tt_stop (Or.inl ⟨dX1_init_4, rfl, rfl, rfl, rfl⟩)
theorem i1_de : (yX1_init).cls ≠ "java/lang/invoke/MethodHandle" ∧ (yX1_init).cls ≠ "java/lang/invoke/VarHandle" ∧ (parseMethodDescriptor (yX1_init).desc).map (fun d => d.parameters.length) = some 0 := by decide +kernel
/-- references, the first i of them there -/
abbrev fRs (n b i : Nat) : List (Option Nat) := (List.range n).map (fun j => if j < i then some (b + j) else none)
theorem fRs_set {n b i : Nat} : (fRs n b i).set i (some (b + i)) = fRs n b (i + 1) := by
  apply List.ext_getElem?
  intro j
  rw [List.getElem?_set]
  by_cases e : i = j
  · subst e
    rw [if_pos rfl]
    by_cases hl : i < n
    · rw [if_pos (by simpa using hl), List.getElem?_map, List.getElem?_range hl]
      simp
    · rw [if_neg (by simpa using hl), List.getElem?_eq_none (by simp; omega)]
  · rw [if_neg e, List.getElem?_map, List.getElem?_map]
    by_cases hl : j < n
    · rw [List.getElem?_range hl]
      simp only [Option.map_some]
      by_cases h1 : j < i
      · rw [if_pos h1, if_pos (by omega)]
      · rw [if_neg h1, if_neg (by omega)]
    · rw [List.getElem?_eq_none (by simp; omega)]
      rfl
abbrev arM (b i : Nat) : tC := .inr (.inl (7, fRs 16 b i))
abbrev mX2_init : tM := (RX2, cX2_init, 2, 2, 40, true)
set_option maxHeartbeats 4000000 in
theorem g_X2_init (a : Nat) (ha0 : h[a]? = some que0) : TMc l D yX2_init cX2_init 2 none 2 40 17 112 [.inr (some a)] h (fun rv h' => h' = HH h a 2 [.inr (some h.length), .inl 0, .inl 0] (arM (h.length + 1) 16 :: List.replicate 16 msg0) ∧ rv = none) := by
  refine tmc_of true rfl (by decide) (Nat.le_of_ble_eq_true rfl) ?_
  suffices HQ : ∀ Q0, Q0 = tRt cX2_init none (fun rv h' => h' = HH h a 2 [.inr (some h.length), .inl 0, .inl 0] (arM (h.length + 1) 16 :: List.replicate 16 msg0) ∧ rv = none) → TT l D mX2_init Q0 17 112 0 [(0, .inr (some a))] [] (HH h a 2 [.inr none, .inl 0, .inl 0] []) by
    rw [← HH_id ha0] at HQ
    exact HQ _ rfl
  intro Q0 hQ
  have ha : a < h.length := t_at ha0
  have B25 : ∀ (n i : Nat) (x : Int32), i + n = 16 → x.toInt = i → TT l D mX2_init Q0 n (6 * n) 25 [(0, .inr (some a)), (1, .inl x)] [] (HH h a 2 [.inr (some h.length), .inl 0, .inl 0] (arM (h.length + 1) i :: List.replicate i msg0)) := by
    intro n
    induction n with
    | zero =>
      intro i x hi hx
      refine tt_iload_n (pc := 25) dX2_init_25 (.tail _ (.head _)) ?_
      refine tw_bipush (pc := 26) dX2_init_26 (by decide) (fun z hz => ?_)
      refine tw_icmp (tgt := 50) (pc := 28) dX2_init_28 (by decide) (fun _ => ?_) (fun c => absurd (show x.toInt ≥ z.toInt by omega) c)
      refine tt_stop ?_
      rw [hQ]
      have : i = 16 := by omega
      subst this
      exact Or.inl ⟨dX2_init_50, rfl, rfl, rfl, rfl⟩
    | succ n ih =>
      intro i x hi hx
      refine tt_iload_n (pc := 25) dX2_init_25 (.tail _ (.head _)) ?_
      refine tw_bipush (pc := 26) dX2_init_26 (by decide) (fun z hz => ?_)
      refine tw_icmp (tgt := 50) (pc := 28) dX2_init_28 (by decide) (fun c => ?_) (fun _ => ?_)
      · exfalso
        have c : x.toInt ≥ z.toInt := c
        omega
      refine tt_aload_n (pc := 31) dX2_init_31 (.head _) ?_
      refine cc_get (pc := 32) dX2_init_32 flX2_11 ha rfl ?_
      refine tt_iload_n (pc := 35) dX2_init_35 (.tail _ (.head _)) ?_
      refine cn_X1 (kc := n) (ks := 6 * n) (pc := 36) dX2_init_36 klX2_9 ?_
      refine tt_dup (pc := 39) dX2_init_39 ?_
      refine tt_callIN (host := RX6) (kc := n) (ks := 6 * n) (mc := 0) (ms := 0) (as := []) (np := 0) (pc := 40) dX2_init_40 kiX1 cwX1_init i1_de imX1_init (fun U hU => hU.2.1) rfl rfl (by decide) (by decide) (Nat.le_of_ble_eq_true rfl) (g_X1_init _) (fun rv h9 q9 => ?_) |> tt_less (by omega) (by omega)
      obtain ⟨rfl, rfl⟩ := q9
      rw [HH_len, HH_add]
      have e0 : h.length + 0 = h.length := rfl
      have eA : (HH h a 2 [.inr (some h.length), .inl 0, .inl 0] ((arM (h.length + 1) i :: List.replicate i msg0) ++ [msg0]))[h.length]? = some (arM (h.length + 1) i) := by rw [← e0, HH_new]; rfl
      have eB : (HH h a 2 [.inr (some h.length), .inl 0, .inl 0] ((arM (h.length + 1) i :: List.replicate i msg0) ++ [msg0]))[h.length + (arM (h.length + 1) i :: List.replicate i msg0).length]? = some msg0 := by rw [HH_new]; simp
      refine tt_aast (pc := 43) (t := 7) (ci := 1) dX2_init_43 eA eB rfl rfl (i_nn (by omega)) (by rw [i_ix hx]; simp; omega) ?_
      rw [i_ix hx]
      have eS : (HH h a 2 [.inr (some h.length), .inl 0, .inl 0] ((arM (h.length + 1) i :: List.replicate i msg0) ++ [msg0])).set h.length (.inr (.inl (7, (fRs 16 (h.length + 1) i).set i (some (h.length + (arM (h.length + 1) i :: List.replicate i msg0).length))))) = HH h a 2 [.inr (some h.length), .inl 0, .inl 0] (arM (h.length + 1) (i + 1) :: List.replicate (i + 1) msg0) := by
        rw [show h.length + (arM (h.length + 1) i :: List.replicate i msg0).length = h.length + 1 + i by simp; omega, fRs_set]
        rw [show (HH h a 2 [.inr (some h.length), .inl 0, .inl 0] ((arM (h.length + 1) i :: List.replicate i msg0) ++ [msg0])).set h.length (.inr (.inl (7, fRs 16 (h.length + 1) (i + 1)))) = (HH h a 2 [.inr (some h.length), .inl 0, .inl 0] ((arM (h.length + 1) i :: List.replicate i msg0) ++ [msg0])).set (h.length + 0) (.inr (.inl (7, fRs 16 (h.length + 1) (i + 1)))) from rfl, HH_setn, List.replicate_succ']
        rfl
      rw [eS]
      refine tw_iinc (pc := 44) dX2_init_44 (.tail _ (.head _)) (by decide) (by decide) (by omega) (fun y hy => ?_)
      refine tt_goto (tgt := 25) (pc := 47) dX2_init_47 (by decide) ?_
      refine tt_loc [(0, .inr (some a)), (1, .inl y)] (by simp [tSt]) ?_
      exact ih (i + 1) y (by omega) (by omega)

  refine tt_aload_n (pc := 0) dX2_init_0 (.head _) ?_
  refine tt_obj (pc := 1) dX2_init_1 olX2_3 oi_obj oc_obj (by decide) (Nat.le_of_ble_eq_true rfl) ?_
  refine tt_aload_n (pc := 4) dX2_init_4 (.head _) ?_
  refine tt_bipush (pc := 5) dX2_init_5 ?_
  refine cc_newq (pc := 7) (t := 7) (len := 16) dX2_init_7 rfl klX2_9 (fun U hU => hU.2.2.2.2.2.2.2.1) (by decide) (by decide) (by decide) ?_
  refine cc_put (pc := 10) dX2_init_10 flX2_11 (Or.inr ⟨rfl, _, _, rfl⟩) ha (Nat.le_of_ble_eq_true rfl) rfl ?_
  refine tt_aload_n (pc := 13) dX2_init_13 (.head _) ?_
  refine tt_iconst (pc := 14) dX2_init_14 ?_
  refine cc_put (pc := 15) dX2_init_15 flX2_17 (Or.inl rfl) ha (Nat.le_of_ble_eq_true rfl) rfl ?_
  refine tt_aload_n (pc := 18) dX2_init_18 (.head _) ?_
  refine tt_iconst (pc := 19) dX2_init_19 ?_
  refine cc_put (pc := 20) dX2_init_20 flX2_21 (Or.inl rfl) ha (Nat.le_of_ble_eq_true rfl) rfl ?_
  refine tw_iconst (pc := 23) dX2_init_23 (by decide) (fun z hz => ?_)
  refine tt_istore_n (pc := 24) dX2_init_24 (by decide) ?_
  refine tt_loc [(0, .inr (some a)), (1, .inl z)] (by simp [tSt]) ?_
  exact B25 16 0 z rfl (by omega)
end TC2
