theorem p29_PX : ∀ r j, 29 ≤ r → PX r j = true := fun r j h => by simp [PX, h]
abbrev lcI (px pm ko : Nat) (i : Int32) : tL := [(1, .inr (some px)), (2, .inr (some pm)), (3, .inr (some ko)), (4, .inl i)]
section LCS
variable {p : Program} {l : Launch} {e : Env} {s : State} {m : MethodId} {below : List Frame} {meth : Method} {c : Code} {b L : Nat} {xs : Nat → Int32} {D : va_G} {kc ks pc : Nat} {h : List tC} {N : Nat} {pk : Int} {τ : List Nat} {px pm ko : Nat}
set_option maxHeartbeats 2000000 in
theorem lw_c0 (C : LC p l s m meth c b L xs) (hl0 : l.stackTraces = false) (hN2 : 2 ≤ N) (hN8 : N ≤ 8) (LI : LIq N pk τ h px pm ko) {i : Int32} {j : Nat} (hi : i.toInt = j) (hj : j + 5 ≤ L) (kk : ∀ (pk' : Int) (τ' : List Nat) (h' : List tC), LIq N pk' τ' h' px pm ko → LT p l e s m below meth c b D kc ks 737 (lcI px pm ko i) [] h') : LT p l e s m below meth c b D (3 + kc) (14 + ks) 116 (lcI px pm ko i) [] h := by
  obtain ⟨⟨c0, c1, hw, tx, tm, tk, ⟨y0, ek⟩, i1, i2, dis, same⟩, su, sa, sp⟩ := id LI
  refine lt_less (kc' := 1 + kc) (ks' := 6 + ks) (by omega) (by omega) ?_
  refine lt_aload_n (pc := 116) C dL_law_116 (.head _) ?_
  refine lt_sld (pc := 117) (n := 1) C dL_law_117 dL_law_118 dL_law_120 dL_law_121 dL_law_122 (.tail _ (.tail _ (.tail _ (.head _)))) hi (by omega) ?_
  refine lt_sld (pc := 123) (n := 2) C dL_law_123 dL_law_124 dL_law_126 dL_law_127 dL_law_128 (.tail _ (.tail _ (.tail _ (.head _)))) hi (by omega) ?_
  refine lt_sld (pc := 129) (n := 3) C dL_law_129 dL_law_130 dL_law_132 dL_law_133 dL_law_134 (.tail _ (.tail _ (.tail _ (.head _)))) hi (by omega) ?_
  refine lt_sld (pc := 135) (n := 4) C dL_law_135 dL_law_136 dL_law_138 dL_law_139 dL_law_140 (.tail _ (.tail _ (.tail _ (.head _)))) hi (by omega) ?_
  refine lt_callH (kc := kc) (ks := ks) (mc := 1) (ms := 6) (as := [.inr (some px), .inl (xs (j + 1)), .inl (xs (j + 2)), .inl (xs (j + 3)), .inl (xs (j + 4))]) (st := []) (pc := 141) C dL_law_141 mlL_53 chL_lay smL_lay kiL dsL_lay rfl (by decide) (by decide) (Nat.le_of_ble_eq_true rfl) (g_L_lay hl0 hN2 hN8 c0 c1 hw px tx (xs (j + 1)) (xs (j + 2)) (xs (j + 3)) (xs (j + 4))) (fun rv h1 q1 => ?_)
  have Q1 : ∃ k : Int32, rv = some (.inl k) ∧ LHL N pk τ h h1 px (xs (j + 1)) (xs (j + 2)) (xs (j + 3)) (xs (j + 4)) k := by
    rcases q1 with ⟨k, e9, hk, rv0, w, ld, rn, d1, d2, d3, -⟩ | ⟨k, e9, hk, eh, c9⟩ | ⟨k, e9, hk, eh, c9, c8⟩
    · exact ⟨k, e9, Or.inl ⟨hk, w, ld, rn, d1, d2, d3⟩⟩
    · exact ⟨k, e9, Or.inr (Or.inl ⟨hk, eh, c9⟩)⟩
    · exact ⟨k, e9, Or.inr (Or.inr ⟨hk, eh, c9, c8⟩)⟩
  obtain ⟨k, rfl, Q1⟩ := Q1
  obtain ⟨hw', i1', i2'⟩ := lay_mid LI.1 Q1
  have tm' := tm; have c0' := c0; have c1' := c1
  show LT p l e s m below meth c b D _ _ 144 _ [.inl k] _
  refine lt_istore (pc := 144) C dL_law_144 (by decide) (by decide) ?_
  refine lt_loc (lcI px pm ko i) (by simp [tSt, lcI]) ?_
  obtain ⟨fs9, e9, -⟩ := wt_obj hw' tm' (by decide)
  refine lt_aload_n (pc := 146) C dL_law_146 (.tail _ (.head _)) ?_
  refine lt_sld (pc := 147) (n := 1) C dL_law_147 dL_law_148 dL_law_150 dL_law_151 dL_law_152 (.tail _ (.tail _ (.tail _ (.head _)))) hi (by omega) ?_
  refine lt_sld (pc := 153) (n := 2) C dL_law_153 dL_law_154 dL_law_156 dL_law_157 dL_law_158 (.tail _ (.tail _ (.tail _ (.head _)))) hi (by omega) ?_
  refine lt_sld (pc := 159) (n := 3) C dL_law_159 dL_law_160 dL_law_162 dL_law_163 dL_law_164 (.tail _ (.tail _ (.tail _ (.head _)))) hi (by omega) ?_
  refine lt_sld (pc := 165) (n := 4) C dL_law_165 dL_law_166 dL_law_168 dL_law_169 dL_law_170 (.tail _ (.tail _ (.tail _ (.head _)))) hi (by omega) ?_
  refine lt_less (kc' := 0 + kc) (ks' := 0 + ks) (by omega) (by omega) ?_
  refine lt_callV (kc := kc) (ks := ks) (mc := 0) (ms := 0) (ci := 7) (a := pm) (as := [.inl (xs (j + 1)), .inl (xs (j + 2)), .inl (xs (j + 3)), .inl (xs (j + 4))]) (st := []) (pc := 171) C dL_law_171 lkL_56 imX7_lay seX7_lay rfl e9 rfl (by decide) (by decide) (Nat.le_of_ble_eq_true rfl) (g_X7_layI hN2 hN8 c0' c1' hw' pm tm' (xs (j + 1)) (xs (j + 2)) (xs (j + 3)) (xs (j + 4)) i1' i2') (fun rv2 h2 q2 => ?_)
  obtain ⟨w2, f2, k1, rfl, t, thr, hm⟩ := q2
  obtain ⟨ht, LI2⟩ := lay_end LI Q1 w2 f2 k1 hm
  show LT p l e s m below meth c b D _ _ 174 _ [] _
  refine lt_goto (pc := 174) (tgt := 737) C dL_law_174 (by decide) ?_
  exact kk _ _ _ LI2
set_option maxHeartbeats 2000000 in
theorem lw_c1 (C : LC p l s m meth c b L xs) (hl0 : l.stackTraces = false) (hN2 : 2 ≤ N) (hN8 : N ≤ 8) (LI : LIq N pk τ h px pm ko) {i : Int32} {j : Nat} (hi : i.toInt = j) (hj : j + 5 ≤ L) (kk : ∀ (pk' : Int) (τ' : List Nat) (h' : List tC), LIq N pk' τ' h' px pm ko → LT p l e s m below meth c b D kc ks 737 (lcI px pm ko i) [] h') : LT p l e s m below meth c b D (3 + kc) (14 + ks) 177 (lcI px pm ko i) [] h := by
  obtain ⟨⟨c0, c1, hw, tx, tm, tk, ⟨y0, ek⟩, i1, i2, dis, same⟩, su, sa, sp⟩ := id LI
  refine lt_less (kc' := 3 + kc) (ks' := 14 + ks) (by omega) (by omega) ?_
  refine lt_aload_n (pc := 177) C dL_law_177 (.head _) ?_
  refine lt_sld (pc := 178) (n := 1) C dL_law_178 dL_law_179 dL_law_181 dL_law_182 dL_law_183 (.tail _ (.tail _ (.tail _ (.head _)))) hi (by omega) ?_
  refine lt_sld (pc := 184) (n := 2) C dL_law_184 dL_law_185 dL_law_187 dL_law_188 dL_law_189 (.tail _ (.tail _ (.tail _ (.head _)))) hi (by omega) ?_
  refine lt_bool (pc := 190) C dL_law_190 dL_law_193 dL_law_194 dL_law_197 (fun v9 ev9 lv9 uv9 => ?_)
  refine lt_callH (kc := kc) (ks := ks) (mc := 3) (ms := 14) (as := [.inr (some px), .inl (xs (j + 1)), .inl (v9)]) (st := []) (pc := 198) C dL_law_198 mlL_57 chL_turn smL_turn kiL dsL_turn rfl (by decide) (by decide) (Nat.le_of_ble_eq_true rfl) (g_L_turn hl0 hN2 hN8 c0 c1 hw px tx (xs (j + 1)) (v9) lv9 uv9) (fun rv h1 q1 => ?_)
  have Q1 : ∃ (k : Int32) (τ1 : List Nat), rv = some (.inl k) ∧ THL N pk τ τ1 h h1 px (xs (j + 1)) (v9) k := by
    rcases q1 with ⟨k, e9, hk, rv0, ⟨τ1, t1, w1, f1⟩, -, R9⟩ | ⟨k, e9, hk, eh, c9⟩ | ⟨k, e9, hk, eh, c9, c8⟩
    · exact ⟨k, τ1, e9, Or.inl ⟨hk, t1, w1, f1, R9⟩⟩
    · exact ⟨k, τ, e9, Or.inr (Or.inl ⟨hk, rfl, eh, c9⟩)⟩
    · exact ⟨k, τ, e9, Or.inr (Or.inr ⟨hk, rfl, eh, c9, c8⟩)⟩
  obtain ⟨k, τ1, rfl, Q1⟩ := Q1
  obtain ⟨c0', c1', hw', tx', tm', tk', ek', i1', i2', dis', same'⟩ := turn_mid LI.1 Q1
  show LT p l e s m below meth c b D _ _ 201 _ [.inl k] _
  refine lt_istore (pc := 201) C dL_law_201 (by decide) (by decide) ?_
  refine lt_loc (lcI px pm ko i) (by simp [tSt, lcI]) ?_
  obtain ⟨fs9, e9, -⟩ := wt_obj hw' tm' (by decide)
  refine lt_aload_n (pc := 203) C dL_law_203 (.tail _ (.head _)) ?_
  refine lt_sld (pc := 204) (n := 1) C dL_law_204 dL_law_205 dL_law_207 dL_law_208 dL_law_209 (.tail _ (.tail _ (.tail _ (.head _)))) hi (by omega) ?_
  refine lt_sld (pc := 210) (n := 2) C dL_law_210 dL_law_211 dL_law_213 dL_law_214 dL_law_215 (.tail _ (.tail _ (.tail _ (.head _)))) hi (by omega) ?_
  refine lt_bool (pc := 216) C dL_law_216 dL_law_219 dL_law_220 dL_law_223 (fun w9 ew9 lw9 uw9 => ?_)
  have ew : w9 = v9 := by rw [ew9, ev9]
  subst ew
  refine lt_less (kc' := 0 + kc) (ks' := 0 + ks) (by omega) (by omega) ?_
  refine lt_callV (kc := kc) (ks := ks) (mc := 0) (ms := 0) (ci := 7) (a := pm) (as := [.inl (xs (j + 1)), .inl (w9)]) (st := []) (pc := 224) C dL_law_224 lkL_60 imX7_turn seX7_turn rfl e9 rfl (by decide) (by decide) (Nat.le_of_ble_eq_true rfl) (g_X7_turnE hN2 hN8 c0' c1' hw' pm tm' (xs (j + 1)) (w9) lw9 uw9 i1' i2') (fun rv2 h2 q2 => ?_)
  obtain ⟨w2, f2, j1, j2, rfl, t, thr, hm⟩ := q2
  obtain ⟨ht, LI2⟩ := turn_end LI Q1 w2 f2 j1 j2 hm
  show LT p l e s m below meth c b D _ _ 227 _ [] _
  refine lt_goto (pc := 227) (tgt := 737) C dL_law_227 (by decide) ?_
  exact kk _ _ _ LI2
set_option maxHeartbeats 2000000 in
theorem lw_c2 (C : LC p l s m meth c b L xs) (hl0 : l.stackTraces = false) (hN2 : 2 ≤ N) (hN8 : N ≤ 8) (LI : LIq N pk τ h px pm ko) {i : Int32} {j : Nat} (hi : i.toInt = j) (hj : j + 5 ≤ L) (kk : ∀ (pk' : Int) (τ' : List Nat) (h' : List tC), LIq N pk' τ' h' px pm ko → LT p l e s m below meth c b D kc ks 737 (lcI px pm ko i) [] h') : LT p l e s m below meth c b D (3 + kc) (14 + ks) 230 (lcI px pm ko i) [] h := by
  obtain ⟨⟨c0, c1, hw, tx, tm, tk, ⟨y0, ek⟩, i1, i2, dis, same⟩, su, sa, sp⟩ := id LI
  refine lt_less (kc' := 3 + kc) (ks' := 14 + ks) (by omega) (by omega) ?_
  refine lt_aload_n (pc := 230) C dL_law_230 (.head _) ?_
  refine lt_sld (pc := 231) (n := 1) C dL_law_231 dL_law_232 dL_law_234 dL_law_235 dL_law_236 (.tail _ (.tail _ (.tail _ (.head _)))) hi (by omega) ?_
  refine lt_sld (pc := 237) (n := 2) C dL_law_237 dL_law_238 dL_law_240 dL_law_241 dL_law_242 (.tail _ (.tail _ (.tail _ (.head _)))) hi (by omega) ?_
  refine lt_callH (kc := kc) (ks := ks) (mc := 3) (ms := 14) (as := [.inr (some px), .inl (xs (j + 1)), .inl (xs (j + 2))]) (st := []) (pc := 243) C dL_law_243 mlL_61 chL_attach smL_attach kiL dsL_attach rfl (by decide) (by decide) (Nat.le_of_ble_eq_true rfl) (g_L_attach hl0 hN2 hN8 c0 c1 hw px tx (xs (j + 1)) (xs (j + 2))) (fun rv h1 q1 => ?_)
  have Q1 : ∃ (k : Int32) (τ1 : List Nat), rv = some (.inl k) ∧ AHL N pk τ τ1 h h1 (xs (j + 1)) (xs (j + 2)) k := by
    rcases q1 with ⟨k, e9, hk, rv0, ⟨τ1, t1, w1, f1⟩, -, R9⟩ | ⟨k, e9, hk, eh, c9⟩ | ⟨k, e9, hk, eh, c9, c8⟩
    · exact ⟨k, τ1, e9, Or.inl ⟨hk, t1, w1, f1, R9⟩⟩
    · exact ⟨k, τ, e9, Or.inr (Or.inl ⟨hk, rfl, eh, c9⟩)⟩
    · exact ⟨k, τ, e9, Or.inr (Or.inr ⟨hk, rfl, eh, c9, c8⟩)⟩
  obtain ⟨k, τ1, rfl, Q1⟩ := Q1
  obtain ⟨c0', c1', hw', tx', tm', tk', ek', i1', i2', dis', same'⟩ := attach_mid LI.1 Q1
  show LT p l e s m below meth c b D _ _ 246 _ [.inl k] _
  refine lt_istore (pc := 246) C dL_law_246 (by decide) (by decide) ?_
  refine lt_loc (lcI px pm ko i) (by simp [tSt, lcI]) ?_
  obtain ⟨fs9, e9, -⟩ := wt_obj hw' tm' (by decide)
  refine lt_aload_n (pc := 248) C dL_law_248 (.tail _ (.head _)) ?_
  refine lt_sld (pc := 249) (n := 1) C dL_law_249 dL_law_250 dL_law_252 dL_law_253 dL_law_254 (.tail _ (.tail _ (.tail _ (.head _)))) hi (by omega) ?_
  refine lt_sld (pc := 255) (n := 2) C dL_law_255 dL_law_256 dL_law_258 dL_law_259 dL_law_260 (.tail _ (.tail _ (.tail _ (.head _)))) hi (by omega) ?_
  refine lt_less (kc' := 0 + kc) (ks' := 0 + ks) (by omega) (by omega) ?_
  refine lt_callV (kc := kc) (ks := ks) (mc := 0) (ms := 0) (ci := 7) (a := pm) (as := [.inl (xs (j + 1)), .inl (xs (j + 2))]) (st := []) (pc := 261) C dL_law_261 lkL_64 imX7_attach seX7_attach rfl e9 rfl (by decide) (by decide) (Nat.le_of_ble_eq_true rfl) (g_X7_attachE hN2 hN8 c0' c1' hw' pm tm' (xs (j + 1)) (xs (j + 2)) i1') (fun rv2 h2 q2 => ?_)
  obtain ⟨w2, f2, j1, rfl, t, thr, hm⟩ := q2
  obtain ⟨ht, LI2⟩ := attach_end LI Q1 w2 f2 j1 (i2_fr f2 rfl rfl i2') hm
  show LT p l e s m below meth c b D _ _ 264 _ [] _
  refine lt_goto (pc := 264) (tgt := 737) C dL_law_264 (by decide) ?_
  exact kk _ _ _ LI2
set_option maxHeartbeats 2000000 in
theorem lw_c3 (C : LC p l s m meth c b L xs) (hl0 : l.stackTraces = false) (hN2 : 2 ≤ N) (hN8 : N ≤ 8) (LI : LIq N pk τ h px pm ko) {i : Int32} {j : Nat} (hi : i.toInt = j) (hj : j + 5 ≤ L) (kk : ∀ (pk' : Int) (τ' : List Nat) (h' : List tC), LIq N pk' τ' h' px pm ko → LT p l e s m below meth c b D kc ks 737 (lcI px pm ko i) [] h') : LT p l e s m below meth c b D (3 + kc) (14 + ks) 267 (lcI px pm ko i) [] h := by
  obtain ⟨⟨c0, c1, hw, tx, tm, tk, ⟨y0, ek⟩, i1, i2, dis, same⟩, su, sa, sp⟩ := id LI
  refine lt_less (kc' := 1 + kc) (ks' := 6 + ks) (by omega) (by omega) ?_
  refine lt_aload_n (pc := 267) C dL_law_267 (.head _) ?_
  refine lt_sld (pc := 268) (n := 1) C dL_law_268 dL_law_269 dL_law_271 dL_law_272 dL_law_273 (.tail _ (.tail _ (.tail _ (.head _)))) hi (by omega) ?_
  refine lt_sld (pc := 274) (n := 2) C dL_law_274 dL_law_275 dL_law_277 dL_law_278 dL_law_279 (.tail _ (.tail _ (.tail _ (.head _)))) hi (by omega) ?_
  refine lt_aload_n (pc := 280) C dL_law_280 (.tail _ (.tail _ (.head _))) ?_
  refine lt_callH (kc := kc) (ks := ks) (mc := 1) (ms := 6) (as := [.inr (some px), .inl (xs (j + 1)), .inl (xs (j + 2)), .inr (some ko)]) (st := []) (pc := 281) C dL_law_281 mlL_65 chL_deliver smL_deliver kiL dsL_deliver rfl (by decide) (by decide) (Nat.le_of_ble_eq_true rfl) (g_L_deliver hl0 hN2 hN8 c0 c1 hw px tx (xs (j + 1)) (xs (j + 2)) ko y0 ek tk) (fun rv h1 q1 => ?_)
  have M1 : ∃ k : Int32, rv = some (.inl k) ∧ LIq N pk τ h1 px pm ko := by
    rcases q1 with ⟨k, e9, -, rv0, h0, y, ⟨w1, f1, -⟩, rfl, -⟩ | ⟨k, e9, -, rfl, -⟩
    · exact ⟨k, e9, lq_ko (lq_x LI ⟨[], by simp⟩ w1 f1 rfl rfl rfl rfl rfl rfl p29_PX) y⟩
    · exact ⟨k, e9, LI⟩
  obtain ⟨k, rfl, LI1⟩ := M1
  obtain ⟨⟨c0', c1', hw', tx', tm', tk', ek', i1', i2', dis', same'⟩, su', sa', sp'⟩ := id LI1
  show LT p l e s m below meth c b D _ _ 284 _ [.inl k] _
  refine lt_istore (pc := 284) C dL_law_284 (by decide) (by decide) ?_
  refine lt_loc (lcI px pm ko i) (by simp [tSt, lcI]) ?_
  obtain ⟨fs9, e9, -⟩ := wt_obj hw' tm' (by decide)
  refine lt_aload_n (pc := 286) C dL_law_286 (.tail _ (.head _)) ?_
  refine lt_sld (pc := 287) (n := 1) C dL_law_287 dL_law_288 dL_law_290 dL_law_291 dL_law_292 (.tail _ (.tail _ (.tail _ (.head _)))) hi (by omega) ?_
  refine lt_sld (pc := 293) (n := 2) C dL_law_293 dL_law_294 dL_law_296 dL_law_297 dL_law_298 (.tail _ (.tail _ (.tail _ (.head _)))) hi (by omega) ?_
  refine lt_less (kc' := 0 + kc) (ks' := 0 + ks) (by omega) (by omega) ?_
  refine lt_callV (kc := kc) (ks := ks) (mc := 0) (ms := 0) (ci := 7) (a := pm) (as := [.inl (xs (j + 1)), .inl (xs (j + 2))]) (st := []) (pc := 299) C dL_law_299 lkL_68 imX7_deliver seX7_deliver rfl e9 rfl (by decide) (by decide) (Nat.le_of_ble_eq_true rfl) (g_X7_deliver hN2 hN8 c0' c1' hw' pm tm' (xs (j + 1)) (xs (j + 2)) i1') (fun rv2 h2 q2 => ?_)
  obtain ⟨w2, f2, j1, x8, rfl, -⟩ := q2
  have LI2 := lq_m LI1 w2 f2 rfl rfl rfl rfl rfl rfl (fun j => rfl) rfl rfl rfl j1 (i2_fr f2 rfl rfl i2')
  show LT p l e s m below meth c b D _ _ 302 _ [.inl x8] _
  refine lt_istore (pc := 302) C dL_law_302 (by decide) (by decide) ?_
  refine lt_loc (lcI px pm ko i) (by simp [tSt, lcI]) ?_
  refine lt_goto (pc := 304) (tgt := 737) C dL_law_304 (by decide) ?_
  exact kk _ _ _ LI2
set_option maxHeartbeats 2000000 in
theorem lw_c4 (C : LC p l s m meth c b L xs) (hl0 : l.stackTraces = false) (hN2 : 2 ≤ N) (hN8 : N ≤ 8) (LI : LIq N pk τ h px pm ko) {i : Int32} {j : Nat} (hi : i.toInt = j) (hj : j + 5 ≤ L) (kk : ∀ (pk' : Int) (τ' : List Nat) (h' : List tC), LIq N pk' τ' h' px pm ko → LT p l e s m below meth c b D kc ks 737 (lcI px pm ko i) [] h') : LT p l e s m below meth c b D (3 + kc) (14 + ks) 307 (lcI px pm ko i) [] h := by
  obtain ⟨⟨c0, c1, hw, tx, tm, tk, ⟨y0, ek⟩, i1, i2, dis, same⟩, su, sa, sp⟩ := id LI
  refine lt_less (kc' := 1 + kc) (ks' := 6 + ks) (by omega) (by omega) ?_
  refine lt_aload_n (pc := 307) C dL_law_307 (.head _) ?_
  refine lt_sld (pc := 308) (n := 1) C dL_law_308 dL_law_309 dL_law_311 dL_law_312 dL_law_313 (.tail _ (.tail _ (.tail _ (.head _)))) hi (by omega) ?_
  refine lt_aload_n (pc := 314) C dL_law_314 (.tail _ (.tail _ (.head _))) ?_
  refine lt_callH (kc := kc) (ks := ks) (mc := 1) (ms := 6) (as := [.inr (some px), .inl (xs (j + 1)), .inr (some ko)]) (st := []) (pc := 315) C dL_law_315 mlL_69 chL_run smL_run kiL dsL_run rfl (by decide) (by decide) (Nat.le_of_ble_eq_true rfl) (g_L_run hl0 hN2 hN8 c0 c1 hw px tx (xs (j + 1)) ko y0 ek tk) (fun rv h1 q1 => ?_)
  have M1 : ∃ k : Int32, rv = some (.inl k) ∧ LIq N pk τ h1 px pm ko := by
    rcases q1 with ⟨k, e9, -, rv0, h0, y, ⟨w1, f1, -⟩, rfl, -⟩ | ⟨k, e9, -, rfl, -⟩
    · exact ⟨k, e9, lq_ko (lq_x LI ⟨[], by simp⟩ w1 f1 rfl rfl rfl rfl rfl rfl p29_PX) y⟩
    · exact ⟨k, e9, LI⟩
  obtain ⟨k, rfl, LI1⟩ := M1
  obtain ⟨⟨c0', c1', hw', tx', tm', tk', ek', i1', i2', dis', same'⟩, su', sa', sp'⟩ := id LI1
  show LT p l e s m below meth c b D _ _ 318 _ [.inl k] _
  refine lt_istore (pc := 318) C dL_law_318 (by decide) (by decide) ?_
  refine lt_loc (lcI px pm ko i) (by simp [tSt, lcI]) ?_
  obtain ⟨fs9, e9, -⟩ := wt_obj hw' tm' (by decide)
  refine lt_aload_n (pc := 320) C dL_law_320 (.tail _ (.head _)) ?_
  refine lt_sld (pc := 321) (n := 1) C dL_law_321 dL_law_322 dL_law_324 dL_law_325 dL_law_326 (.tail _ (.tail _ (.tail _ (.head _)))) hi (by omega) ?_
  refine lt_less (kc' := 0 + kc) (ks' := 0 + ks) (by omega) (by omega) ?_
  refine lt_callV (kc := kc) (ks := ks) (mc := 0) (ms := 0) (ci := 7) (a := pm) (as := [.inl (xs (j + 1))]) (st := []) (pc := 327) C dL_law_327 lkL_72 imX7_run seX7_run rfl e9 rfl (by decide) (by decide) (Nat.le_of_ble_eq_true rfl) (g_X7_run hN2 hN8 c0' c1' hw' pm tm' (xs (j + 1)) i1') (fun rv2 h2 q2 => ?_)
  obtain ⟨w2, f2, j1, x8, rfl, -⟩ := q2
  have LI2 := lq_m LI1 w2 f2 rfl rfl rfl rfl rfl rfl (fun j => rfl) rfl rfl rfl j1 (i2_fr f2 rfl rfl i2')
  show LT p l e s m below meth c b D _ _ 330 _ [.inl x8] _
  refine lt_istore (pc := 330) C dL_law_330 (by decide) (by decide) ?_
  refine lt_loc (lcI px pm ko i) (by simp [tSt, lcI]) ?_
  refine lt_goto (pc := 332) (tgt := 737) C dL_law_332 (by decide) ?_
  exact kk _ _ _ LI2
set_option maxHeartbeats 2000000 in
theorem lw_c5 (C : LC p l s m meth c b L xs) (hl0 : l.stackTraces = false) (hN2 : 2 ≤ N) (hN8 : N ≤ 8) (LI : LIq N pk τ h px pm ko) {i : Int32} {j : Nat} (hi : i.toInt = j) (hj : j + 5 ≤ L) (kk : ∀ (pk' : Int) (τ' : List Nat) (h' : List tC), LIq N pk' τ' h' px pm ko → LT p l e s m below meth c b D kc ks 737 (lcI px pm ko i) [] h') : LT p l e s m below meth c b D (3 + kc) (14 + ks) 335 (lcI px pm ko i) [] h := by
  obtain ⟨⟨c0, c1, hw, tx, tm, tk, ⟨y0, ek⟩, i1, i2, dis, same⟩, su, sa, sp⟩ := id LI
  refine lt_less (kc' := 1 + kc) (ks' := 6 + ks) (by omega) (by omega) ?_
  refine lt_aload_n (pc := 335) C dL_law_335 (.head _) ?_
  refine lt_sld (pc := 336) (n := 1) C dL_law_336 dL_law_337 dL_law_339 dL_law_340 dL_law_341 (.tail _ (.tail _ (.tail _ (.head _)))) hi (by omega) ?_
  refine lt_sld (pc := 342) (n := 2) C dL_law_342 dL_law_343 dL_law_345 dL_law_346 dL_law_347 (.tail _ (.tail _ (.tail _ (.head _)))) hi (by omega) ?_
  refine lt_sld (pc := 348) (n := 3) C dL_law_348 dL_law_349 dL_law_351 dL_law_352 dL_law_353 (.tail _ (.tail _ (.tail _ (.head _)))) hi (by omega) ?_
  refine lt_aload_n (pc := 354) C dL_law_354 (.tail _ (.tail _ (.head _))) ?_
  refine lt_callH (kc := kc) (ks := ks) (mc := 1) (ms := 6) (as := [.inr (some px), .inl (xs (j + 1)), .inl (xs (j + 2)), .inl (xs (j + 3)), .inr (some ko)]) (st := []) (pc := 355) C dL_law_355 mlL_73 chL_spoil smL_spoil kiL dsL_spoil rfl (by decide) (by decide) (Nat.le_of_ble_eq_true rfl) (g_L_spoil hl0 hN2 hN8 c0 c1 hw px tx (xs (j + 1)) (xs (j + 2)) (xs (j + 3)) ko y0 ek tk) (fun rv h1 q1 => ?_)
  have M1 : ∃ k : Int32, rv = some (.inl k) ∧ LIq N pk τ h1 px pm ko := by
    rcases q1 with ⟨k, e9, -, rv0, h0, y, ⟨w1, f1, -⟩, rfl⟩ | ⟨k, e9, -, rfl, -⟩
    · exact ⟨k, e9, lq_ko (lq_x LI ⟨[], by simp⟩ w1 f1 rfl rfl rfl rfl rfl rfl p29_PX) y⟩
    · exact ⟨k, e9, LI⟩
  obtain ⟨k, rfl, LI1⟩ := M1
  obtain ⟨⟨c0', c1', hw', tx', tm', tk', ek', i1', i2', dis', same'⟩, su', sa', sp'⟩ := id LI1
  show LT p l e s m below meth c b D _ _ 358 _ [.inl k] _
  refine lt_istore (pc := 358) C dL_law_358 (by decide) (by decide) ?_
  refine lt_loc (lcI px pm ko i) (by simp [tSt, lcI]) ?_
  obtain ⟨fs9, e9, -⟩ := wt_obj hw' tm' (by decide)
  refine lt_aload_n (pc := 360) C dL_law_360 (.tail _ (.head _)) ?_
  refine lt_sld (pc := 361) (n := 1) C dL_law_361 dL_law_362 dL_law_364 dL_law_365 dL_law_366 (.tail _ (.tail _ (.tail _ (.head _)))) hi (by omega) ?_
  refine lt_sld (pc := 367) (n := 2) C dL_law_367 dL_law_368 dL_law_370 dL_law_371 dL_law_372 (.tail _ (.tail _ (.tail _ (.head _)))) hi (by omega) ?_
  refine lt_sld (pc := 373) (n := 3) C dL_law_373 dL_law_374 dL_law_376 dL_law_377 dL_law_378 (.tail _ (.tail _ (.tail _ (.head _)))) hi (by omega) ?_
  refine lt_less (kc' := 0 + kc) (ks' := 0 + ks) (by omega) (by omega) ?_
  refine lt_callV (kc := kc) (ks := ks) (mc := 0) (ms := 0) (ci := 7) (a := pm) (as := [.inl (xs (j + 1)), .inl (xs (j + 2)), .inl (xs (j + 3))]) (st := []) (pc := 379) C dL_law_379 lkL_76 imX7_spoil seX7_spoil rfl e9 rfl (by decide) (by decide) (Nat.le_of_ble_eq_true rfl) (g_X7_spoil hN2 hN8 c0' c1' hw' pm tm' (xs (j + 1)) (xs (j + 2)) (xs (j + 3))) (fun rv2 h2 q2 => ?_)
  obtain ⟨w2, f2, x8, rfl, -⟩ := q2
  have LI2 := lq_m LI1 w2 f2 rfl rfl rfl rfl rfl rfl (fun j => rfl) rfl rfl rfl (i1_fr f2 rfl rfl rfl rfl i1') (i2_fr f2 rfl rfl i2')
  show LT p l e s m below meth c b D _ _ 382 _ [.inl x8] _
  refine lt_istore (pc := 382) C dL_law_382 (by decide) (by decide) ?_
  refine lt_loc (lcI px pm ko i) (by simp [tSt, lcI]) ?_
  refine lt_goto (pc := 384) (tgt := 737) C dL_law_384 (by decide) ?_
  exact kk _ _ _ LI2
set_option maxHeartbeats 2000000 in
theorem lw_c6 (C : LC p l s m meth c b L xs) (hl0 : l.stackTraces = false) (hN2 : 2 ≤ N) (hN8 : N ≤ 8) (LI : LIq N pk τ h px pm ko) {i : Int32} {j : Nat} (hi : i.toInt = j) (hj : j + 5 ≤ L) (kk : ∀ (pk' : Int) (τ' : List Nat) (h' : List tC), LIq N pk' τ' h' px pm ko → LT p l e s m below meth c b D kc ks 737 (lcI px pm ko i) [] h') : LT p l e s m below meth c b D (3 + kc) (14 + ks) 387 (lcI px pm ko i) [] h := by
  obtain ⟨⟨c0, c1, hw, tx, tm, tk, ⟨y0, ek⟩, i1, i2, dis, same⟩, su, sa, sp⟩ := id LI
  refine lt_less (kc' := 2 + kc) (ks' := 11 + ks) (by omega) (by omega) ?_
  refine lt_aload_n (pc := 387) C dL_law_387 (.head _) ?_
  refine lt_sld (pc := 388) (n := 1) C dL_law_388 dL_law_389 dL_law_391 dL_law_392 dL_law_393 (.tail _ (.tail _ (.tail _ (.head _)))) hi (by omega) ?_
  refine lt_sld (pc := 394) (n := 2) C dL_law_394 dL_law_395 dL_law_397 dL_law_398 dL_law_399 (.tail _ (.tail _ (.tail _ (.head _)))) hi (by omega) ?_
  refine lt_sld (pc := 400) (n := 3) C dL_law_400 dL_law_401 dL_law_403 dL_law_404 dL_law_405 (.tail _ (.tail _ (.tail _ (.head _)))) hi (by omega) ?_
  refine lt_aload_n (pc := 406) C dL_law_406 (.tail _ (.tail _ (.head _))) ?_
  refine lt_callH (kc := kc) (ks := ks) (mc := 2) (ms := 11) (as := [.inr (some px), .inl (xs (j + 1)), .inl (xs (j + 2)), .inl (xs (j + 3)), .inr (some ko)]) (st := []) (pc := 407) C dL_law_407 mlL_77 chL_inject smL_inject kiL dsL_inject rfl (by decide) (by decide) (Nat.le_of_ble_eq_true rfl) (g_L_inject hl0 hN2 hN8 c0 c1 hw px tx (xs (j + 1)) (xs (j + 2)) (xs (j + 3)) ko y0 ek tk) (fun rv h1 q1 => ?_)
  have Q1 : ∃ (k : Int32) (pk1 : Int) (τ1 : List Nat), rv = some (.inl k) ∧ IHL N pk pk1 τ τ1 h h1 ko (xs (j + 1)) (xs (j + 2)) (xs (j + 3)) k := by
    rcases q1 with ⟨k, e9, hk, rv0, h0, y, ⟨⟨τ1, t1, w1, f1⟩, ⟨x9, ex9, px9⟩, R9, b1, b2, b3⟩, eh, ey⟩ | ⟨k, e9, hk, eh, c9⟩ | ⟨k, e9, hk, eh, c9, c8⟩
    · refine ⟨k, pk + 1, τ1, e9, Or.inl ⟨hk, rfl, t1, ⟨h0, y, w1, f1, ?_, eh⟩, R9, b1, b2, b3⟩⟩
      rw [ex9] at ey
      cases ey
      exact px9
    · exact ⟨k, pk, τ, e9, Or.inr (Or.inl ⟨hk, rfl, rfl, eh, c9⟩)⟩
    · exact ⟨k, pk, τ, e9, Or.inr (Or.inr ⟨hk, rfl, rfl, eh, c9, c8⟩)⟩
  obtain ⟨k, pk1, τ1, rfl, Q1⟩ := Q1
  obtain ⟨c0', c1', hw', tx', tm', tk', ek', i1', i2', dis', same'⟩ := (inj_mid LI Q1).1
  show LT p l e s m below meth c b D _ _ 410 _ [.inl k] _
  refine lt_istore (pc := 410) C dL_law_410 (by decide) (by decide) ?_
  refine lt_loc ((5, .inl k) :: lcI px pm ko i) (by simp [tSt, lcI]) ?_
  obtain ⟨fs9, e9, -⟩ := wt_obj hw' tm' (by decide)
  refine lt_aload_n (pc := 412) C dL_law_412 (.tail _ (.tail _ (.head _))) ?_
  refine lt_sld (pc := 413) (n := 1) C dL_law_413 dL_law_414 dL_law_416 dL_law_417 dL_law_418 (.tail _ (.tail _ (.tail _ (.tail _ (.head _))))) hi (by omega) ?_
  refine lt_sld (pc := 419) (n := 2) C dL_law_419 dL_law_420 dL_law_422 dL_law_423 dL_law_424 (.tail _ (.tail _ (.tail _ (.tail _ (.head _))))) hi (by omega) ?_
  refine lt_sld (pc := 425) (n := 3) C dL_law_425 dL_law_426 dL_law_428 dL_law_429 dL_law_430 (.tail _ (.tail _ (.tail _ (.tail _ (.head _))))) hi (by omega) ?_
  refine lt_less (kc' := 0 + kc) (ks' := 0 + ks) (by omega) (by omega) ?_
  refine lt_callV (kc := kc) (ks := ks) (mc := 0) (ms := 0) (ci := 7) (a := pm) (as := [.inl (xs (j + 1)), .inl (xs (j + 2)), .inl (xs (j + 3))]) (st := []) (pc := 431) C dL_law_431 lkL_79 imX7_inject seX7_inject rfl e9 rfl (by decide) (by decide) (Nat.le_of_ble_eq_true rfl) (g_X7_injectE hN2 hN8 c0' c1' hw' pm tm' (xs (j + 1)) (xs (j + 2)) (xs (j + 3)) i1') (fun rv2 h2 q2 => ?_)
  obtain ⟨w2, f2, j1, t, x8, rfl, thr, hm⟩ := q2
  obtain ⟨ht, LI2, ho⟩ := inj_end LI Q1 w2 f2 j1 (i2_fr f2 rfl rfl i2') hm
  show LT p l e s m below meth c b D _ _ 434 _ [.inl x8] _
  refine lt_istore (pc := 434) C dL_law_434 (by decide) (by decide) ?_
  refine lt_loc ((6, .inl x8) :: (5, .inl k) :: lcI px pm ko i) (by simp [tSt, lcI]) ?_
  obtain ⟨fs7, e7, -⟩ := wt_obj w2 tm' (by decide)
  refine lt_aload_n (pc := 436) C dL_law_436 (.tail _ (.tail _ (.tail _ (.head _)))) ?_
  refine lt_less (kc' := 0 + kc) (ks' := 0 + ks) (by omega) (by omega) ?_
  refine lt_callV (kc := kc) (ks := ks) (mc := 0) (ms := 0) (ci := 7) (a := pm) (as := []) (st := []) (pc := 437) C dL_law_437 lkL_80 imX7_thrown seX7_thrown rfl e7 rfl (by decide) (by decide) (Nat.le_of_ble_eq_true rfl) (g_X7_thrownE pm thr) (fun rv3 h3 q3 => ?_)
  obtain ⟨rfl, rfl⟩ := q3
  show LT p l e s m below meth c b D _ _ 440 _ [.inl t] _
  refine lt_iload (pc := 440) C dL_law_440 (.tail _ (.head _)) ?_
  refine lt_icmpeq (pc := 442) (tgt := 447) C dL_law_442 (by decide) (fun _ => ?_) (fun z => absurd (Int32.toInt.inj ht) z)
  refine lt_out C (.tail _ (.head _)) (.head _) (.tail _ (.tail _ (.tail _ (.tail _ (.head _))))) ho ?_
  refine lt_goto (pc := 464) (tgt := 737) C dL_law_464 (by decide) ?_
  refine lt_loc (lcI px pm ko i) (by simp [lcI]) ?_
  exact kk _ _ _ LI2
set_option maxHeartbeats 2000000 in
theorem lw_c7 (C : LC p l s m meth c b L xs) (hl0 : l.stackTraces = false) (hN2 : 2 ≤ N) (hN8 : N ≤ 8) (LI : LIq N pk τ h px pm ko) {i : Int32} {j : Nat} (hi : i.toInt = j) (hj : j + 5 ≤ L) (kk : ∀ (pk' : Int) (τ' : List Nat) (h' : List tC), LIq N pk' τ' h' px pm ko → LT p l e s m below meth c b D kc ks 737 (lcI px pm ko i) [] h') : LT p l e s m below meth c b D (3 + kc) (14 + ks) 467 (lcI px pm ko i) [] h := by
  obtain ⟨⟨c0, c1, hw, tx, tm, tk, ⟨y0, ek⟩, i1, i2, dis, same⟩, su, sa, sp⟩ := id LI
  refine lt_less (kc' := 0 + kc) (ks' := 0 + ks) (by omega) (by omega) ?_
  refine lt_aload_n (pc := 467) C dL_law_467 (.head _) ?_
  refine lt_sld (pc := 468) (n := 1) C dL_law_468 dL_law_469 dL_law_471 dL_law_472 dL_law_473 (.tail _ (.tail _ (.tail _ (.head _)))) hi (by omega) ?_
  refine lt_sld (pc := 474) (n := 2) C dL_law_474 dL_law_475 dL_law_477 dL_law_478 dL_law_479 (.tail _ (.tail _ (.tail _ (.head _)))) hi (by omega) ?_
  obtain ⟨fs8, e8, -⟩ := wt_obj hw tx (by decide)
  refine lt_callV (kc := kc) (ks := ks) (mc := 0) (ms := 0) (ci := 6) (a := px) (as := [.inl (xs (j + 1)), .inl (xs (j + 2))]) (st := []) (pc := 480) C dL_law_480 lkL_84 imX6_packet seX6_packet rfl e8 rfl (by decide) (by decide) (Nat.le_of_ble_eq_true rfl) (g_X6_packet hN2 hN8 c0 c1 hw px tx (xs (j + 1)) (xs (j + 2))) (fun rv h1 q1 => ?_)
  obtain ⟨rfl, x9, rfl, -⟩ := q1
  show LT p l e s m below meth c b D _ _ 483 _ [.inl x9] _
  refine lt_pop (pc := 483) C dL_law_483 ?_
  have LI1 := LI; have c0' := c0; have c1' := c1; have hw' := hw; have tm' := tm; have i1' := i1; have i2' := i2
  obtain ⟨fs9, e9, -⟩ := wt_obj hw' tm' (by decide)
  refine lt_aload_n (pc := 484) C dL_law_484 (.tail _ (.head _)) ?_
  refine lt_sld (pc := 485) (n := 1) C dL_law_485 dL_law_486 dL_law_488 dL_law_489 dL_law_490 (.tail _ (.tail _ (.tail _ (.head _)))) hi (by omega) ?_
  refine lt_sld (pc := 491) (n := 2) C dL_law_491 dL_law_492 dL_law_494 dL_law_495 dL_law_496 (.tail _ (.tail _ (.tail _ (.head _)))) hi (by omega) ?_
  refine lt_less (kc' := 0 + kc) (ks' := 0 + ks) (by omega) (by omega) ?_
  refine lt_callV (kc := kc) (ks := ks) (mc := 0) (ms := 0) (ci := 7) (a := pm) (as := [.inl (xs (j + 1)), .inl (xs (j + 2))]) (st := []) (pc := 497) C dL_law_497 lkL_87 imX7_packet seX7_packet rfl e9 rfl (by decide) (by decide) (Nat.le_of_ble_eq_true rfl) (g_X7_packet hN2 hN8 c0' c1' hw' pm tm' (xs (j + 1)) (xs (j + 2))) (fun rv2 h2 q2 => ?_)
  obtain ⟨w2, f2, x8, rfl, -⟩ := q2
  have LI2 := lq_m LI1 w2 f2 rfl rfl rfl rfl rfl rfl (fun j => rfl) rfl rfl rfl (i1_fr f2 rfl rfl rfl rfl i1') (i2_fr f2 rfl rfl i2')
  show LT p l e s m below meth c b D _ _ 500 _ [.inl x8] _
  refine lt_pop (pc := 500) C dL_law_500 ?_
  refine lt_goto (pc := 501) (tgt := 737) C dL_law_501 (by decide) ?_
  exact kk _ _ _ LI2
set_option maxHeartbeats 2000000 in
theorem lw_c8 (C : LC p l s m meth c b L xs) (hl0 : l.stackTraces = false) (hN2 : 2 ≤ N) (hN8 : N ≤ 8) (LI : LIq N pk τ h px pm ko) {i : Int32} {j : Nat} (hi : i.toInt = j) (hj : j + 5 ≤ L) (kk : ∀ (pk' : Int) (τ' : List Nat) (h' : List tC), LIq N pk' τ' h' px pm ko → LT p l e s m below meth c b D kc ks 737 (lcI px pm ko i) [] h') : LT p l e s m below meth c b D (3 + kc) (14 + ks) 504 (lcI px pm ko i) [] h := by
  obtain ⟨⟨c0, c1, hw, tx, tm, tk, ⟨y0, ek⟩, i1, i2, dis, same⟩, su, sa, sp⟩ := id LI
  refine lt_less (kc' := 0 + kc) (ks' := 0 + ks) (by omega) (by omega) ?_
  refine lt_aload_n (pc := 504) C dL_law_504 (.head _) ?_
  refine lt_sld (pc := 505) (n := 1) C dL_law_505 dL_law_506 dL_law_508 dL_law_509 dL_law_510 (.tail _ (.tail _ (.tail _ (.head _)))) hi (by omega) ?_
  refine lt_sld (pc := 511) (n := 2) C dL_law_511 dL_law_512 dL_law_514 dL_law_515 dL_law_516 (.tail _ (.tail _ (.tail _ (.head _)))) hi (by omega) ?_
  refine lt_sld (pc := 517) (n := 3) C dL_law_517 dL_law_518 dL_law_520 dL_law_521 dL_law_522 (.tail _ (.tail _ (.tail _ (.head _)))) hi (by omega) ?_
  obtain ⟨fs8, e8, -⟩ := wt_obj hw tx (by decide)
  refine lt_callV (kc := kc) (ks := ks) (mc := 0) (ms := 0) (ci := 6) (a := px) (as := [.inl (xs (j + 1)), .inl (xs (j + 2)), .inl (xs (j + 3))]) (st := []) (pc := 523) C dL_law_523 lkL_88 imX6_queue seX6_queue rfl e8 rfl (by decide) (by decide) (Nat.le_of_ble_eq_true rfl) (g_X6_queue hN2 hN8 c0 c1 hw px tx (xs (j + 1)) (xs (j + 2)) (xs (j + 3))) (fun rv h1 q1 => ?_)
  obtain ⟨rfl, x9, rfl, -⟩ := q1
  show LT p l e s m below meth c b D _ _ 526 _ [.inl x9] _
  refine lt_pop (pc := 526) C dL_law_526 ?_
  have LI1 := LI; have c0' := c0; have c1' := c1; have hw' := hw; have tm' := tm; have i1' := i1; have i2' := i2
  obtain ⟨fs9, e9, -⟩ := wt_obj hw' tm' (by decide)
  refine lt_aload_n (pc := 527) C dL_law_527 (.tail _ (.head _)) ?_
  refine lt_sld (pc := 528) (n := 1) C dL_law_528 dL_law_529 dL_law_531 dL_law_532 dL_law_533 (.tail _ (.tail _ (.tail _ (.head _)))) hi (by omega) ?_
  refine lt_sld (pc := 534) (n := 2) C dL_law_534 dL_law_535 dL_law_537 dL_law_538 dL_law_539 (.tail _ (.tail _ (.tail _ (.head _)))) hi (by omega) ?_
  refine lt_sld (pc := 540) (n := 3) C dL_law_540 dL_law_541 dL_law_543 dL_law_544 dL_law_545 (.tail _ (.tail _ (.tail _ (.head _)))) hi (by omega) ?_
  refine lt_less (kc' := 0 + kc) (ks' := 0 + ks) (by omega) (by omega) ?_
  refine lt_callV (kc := kc) (ks := ks) (mc := 0) (ms := 0) (ci := 7) (a := pm) (as := [.inl (xs (j + 1)), .inl (xs (j + 2)), .inl (xs (j + 3))]) (st := []) (pc := 546) C dL_law_546 lkL_91 imX7_queue seX7_queue rfl e9 rfl (by decide) (by decide) (Nat.le_of_ble_eq_true rfl) (g_X7_queue hN2 hN8 c0' c1' hw' pm tm' (xs (j + 1)) (xs (j + 2)) (xs (j + 3))) (fun rv2 h2 q2 => ?_)
  obtain ⟨w2, f2, x8, rfl, -⟩ := q2
  have LI2 := lq_m LI1 w2 f2 rfl rfl rfl rfl rfl rfl (fun j => rfl) rfl rfl rfl (i1_fr f2 rfl rfl rfl rfl i1') (i2_fr f2 rfl rfl i2')
  show LT p l e s m below meth c b D _ _ 549 _ [.inl x8] _
  refine lt_pop (pc := 549) C dL_law_549 ?_
  refine lt_goto (pc := 550) (tgt := 737) C dL_law_550 (by decide) ?_
  exact kk _ _ _ LI2
set_option maxHeartbeats 2000000 in
theorem lw_c9 (C : LC p l s m meth c b L xs) (hl0 : l.stackTraces = false) (hN2 : 2 ≤ N) (hN8 : N ≤ 8) (LI : LIq N pk τ h px pm ko) {i : Int32} {j : Nat} (hi : i.toInt = j) (hj : j + 5 ≤ L) (kk : ∀ (pk' : Int) (τ' : List Nat) (h' : List tC), LIq N pk' τ' h' px pm ko → LT p l e s m below meth c b D kc ks 737 (lcI px pm ko i) [] h') : LT p l e s m below meth c b D (3 + kc) (14 + ks) 553 (lcI px pm ko i) [] h := by
  obtain ⟨⟨c0, c1, hw, tx, tm, tk, ⟨y0, ek⟩, i1, i2, dis, same⟩, su, sa, sp⟩ := id LI
  refine lt_less (kc' := 0 + kc) (ks' := 0 + ks) (by omega) (by omega) ?_
  refine lt_aload_n (pc := 553) C dL_law_553 (.head _) ?_
  refine lt_sld (pc := 554) (n := 1) C dL_law_554 dL_law_555 dL_law_557 dL_law_558 dL_law_559 (.tail _ (.tail _ (.tail _ (.head _)))) hi (by omega) ?_
  refine lt_sld (pc := 560) (n := 2) C dL_law_560 dL_law_561 dL_law_563 dL_law_564 dL_law_565 (.tail _ (.tail _ (.tail _ (.head _)))) hi (by omega) ?_
  obtain ⟨fs8, e8, -⟩ := wt_obj hw tx (by decide)
  refine lt_callV (kc := kc) (ks := ks) (mc := 0) (ms := 0) (ci := 6) (a := px) (as := [.inl (xs (j + 1)), .inl (xs (j + 2))]) (st := []) (pc := 566) C dL_law_566 lkL_92 imX6_knows seX6_knows rfl e8 rfl (by decide) (by decide) (Nat.le_of_ble_eq_true rfl) (g_X6_knows hN2 hN8 c0 c1 hw px tx (xs (j + 1)) (xs (j + 2))) (fun rv h1 q1 => ?_)
  obtain ⟨rfl, x9, rfl, -⟩ := q1
  show LT p l e s m below meth c b D _ _ 569 _ [.inl x9] _
  refine lt_pop (pc := 569) C dL_law_569 ?_
  have LI1 := LI; have c0' := c0; have c1' := c1; have hw' := hw; have tm' := tm; have i1' := i1; have i2' := i2
  obtain ⟨fs9, e9, -⟩ := wt_obj hw' tm' (by decide)
  refine lt_aload_n (pc := 570) C dL_law_570 (.tail _ (.head _)) ?_
  refine lt_sld (pc := 571) (n := 1) C dL_law_571 dL_law_572 dL_law_574 dL_law_575 dL_law_576 (.tail _ (.tail _ (.tail _ (.head _)))) hi (by omega) ?_
  refine lt_sld (pc := 577) (n := 2) C dL_law_577 dL_law_578 dL_law_580 dL_law_581 dL_law_582 (.tail _ (.tail _ (.tail _ (.head _)))) hi (by omega) ?_
  refine lt_less (kc' := 0 + kc) (ks' := 0 + ks) (by omega) (by omega) ?_
  refine lt_callV (kc := kc) (ks := ks) (mc := 0) (ms := 0) (ci := 7) (a := pm) (as := [.inl (xs (j + 1)), .inl (xs (j + 2))]) (st := []) (pc := 583) C dL_law_583 lkL_95 imX7_knows seX7_knows rfl e9 rfl (by decide) (by decide) (Nat.le_of_ble_eq_true rfl) (g_X7_knows hN2 hN8 c0' c1' hw' pm tm' (xs (j + 1)) (xs (j + 2))) (fun rv2 h2 q2 => ?_)
  obtain ⟨w2, f2, x8, rfl, -⟩ := q2
  have LI2 := lq_m LI1 w2 f2 rfl rfl rfl rfl rfl rfl (fun j => rfl) rfl rfl rfl (i1_fr f2 rfl rfl rfl rfl i1') (i2_fr f2 rfl rfl i2')
  show LT p l e s m below meth c b D _ _ 586 _ [.inl x8] _
  refine lt_pop (pc := 586) C dL_law_586 ?_
  refine lt_goto (pc := 587) (tgt := 737) C dL_law_587 (by decide) ?_
  exact kk _ _ _ LI2
set_option maxHeartbeats 2000000 in
theorem lw_c10 (C : LC p l s m meth c b L xs) (hl0 : l.stackTraces = false) (hN2 : 2 ≤ N) (hN8 : N ≤ 8) (LI : LIq N pk τ h px pm ko) {i : Int32} {j : Nat} (hi : i.toInt = j) (hj : j + 5 ≤ L) (kk : ∀ (pk' : Int) (τ' : List Nat) (h' : List tC), LIq N pk' τ' h' px pm ko → LT p l e s m below meth c b D kc ks 737 (lcI px pm ko i) [] h') : LT p l e s m below meth c b D (3 + kc) (14 + ks) 590 (lcI px pm ko i) [] h := by
  obtain ⟨⟨c0, c1, hw, tx, tm, tk, ⟨y0, ek⟩, i1, i2, dis, same⟩, su, sa, sp⟩ := id LI
  refine lt_less (kc' := 0 + kc) (ks' := 0 + ks) (by omega) (by omega) ?_
  refine lt_aload_n (pc := 590) C dL_law_590 (.head _) ?_
  refine lt_sld (pc := 591) (n := 1) C dL_law_591 dL_law_592 dL_law_594 dL_law_595 dL_law_596 (.tail _ (.tail _ (.tail _ (.head _)))) hi (by omega) ?_
  refine lt_sld (pc := 597) (n := 2) C dL_law_597 dL_law_598 dL_law_600 dL_law_601 dL_law_602 (.tail _ (.tail _ (.tail _ (.head _)))) hi (by omega) ?_
  refine lt_sld (pc := 603) (n := 3) C dL_law_603 dL_law_604 dL_law_606 dL_law_607 dL_law_608 (.tail _ (.tail _ (.tail _ (.head _)))) hi (by omega) ?_
  obtain ⟨fs8, e8, -⟩ := wt_obj hw tx (by decide)
  refine lt_callV (kc := kc) (ks := ks) (mc := 0) (ms := 0) (ci := 6) (a := px) (as := [.inl (xs (j + 1)), .inl (xs (j + 2)), .inl (xs (j + 3))]) (st := []) (pc := 609) C dL_law_609 lkL_96 imX6_way seX6_way rfl e8 rfl (by decide) (by decide) (Nat.le_of_ble_eq_true rfl) (g_X6_way hN2 hN8 c0 c1 hw px tx (xs (j + 1)) (xs (j + 2)) (xs (j + 3))) (fun rv h1 q1 => ?_)
  obtain ⟨rfl, x9, rfl, -⟩ := q1
  show LT p l e s m below meth c b D _ _ 612 _ [.inl x9] _
  refine lt_pop (pc := 612) C dL_law_612 ?_
  have LI1 := LI; have c0' := c0; have c1' := c1; have hw' := hw; have tm' := tm; have i1' := i1; have i2' := i2
  obtain ⟨fs9, e9, -⟩ := wt_obj hw' tm' (by decide)
  refine lt_aload_n (pc := 613) C dL_law_613 (.tail _ (.head _)) ?_
  refine lt_sld (pc := 614) (n := 1) C dL_law_614 dL_law_615 dL_law_617 dL_law_618 dL_law_619 (.tail _ (.tail _ (.tail _ (.head _)))) hi (by omega) ?_
  refine lt_sld (pc := 620) (n := 2) C dL_law_620 dL_law_621 dL_law_623 dL_law_624 dL_law_625 (.tail _ (.tail _ (.tail _ (.head _)))) hi (by omega) ?_
  refine lt_sld (pc := 626) (n := 3) C dL_law_626 dL_law_627 dL_law_629 dL_law_630 dL_law_631 (.tail _ (.tail _ (.tail _ (.head _)))) hi (by omega) ?_
  refine lt_less (kc' := 0 + kc) (ks' := 0 + ks) (by omega) (by omega) ?_
  refine lt_callV (kc := kc) (ks := ks) (mc := 0) (ms := 0) (ci := 7) (a := pm) (as := [.inl (xs (j + 1)), .inl (xs (j + 2)), .inl (xs (j + 3))]) (st := []) (pc := 632) C dL_law_632 lkL_99 imX7_way seX7_way rfl e9 rfl (by decide) (by decide) (Nat.le_of_ble_eq_true rfl) (g_X7_way hN2 hN8 c0' c1' hw' pm tm' (xs (j + 1)) (xs (j + 2)) (xs (j + 3))) (fun rv2 h2 q2 => ?_)
  obtain ⟨w2, f2, x8, rfl, -⟩ := q2
  have LI2 := lq_m LI1 w2 f2 rfl rfl rfl rfl rfl rfl (fun j => rfl) rfl rfl rfl (i1_fr f2 rfl rfl rfl rfl i1') (i2_fr f2 rfl rfl i2')
  show LT p l e s m below meth c b D _ _ 635 _ [.inl x8] _
  refine lt_pop (pc := 635) C dL_law_635 ?_
  refine lt_goto (pc := 636) (tgt := 737) C dL_law_636 (by decide) ?_
  exact kk _ _ _ LI2
set_option maxHeartbeats 2000000 in
theorem lw_c11 (C : LC p l s m meth c b L xs) (hl0 : l.stackTraces = false) (hN2 : 2 ≤ N) (hN8 : N ≤ 8) (LI : LIq N pk τ h px pm ko) {i : Int32} {j : Nat} (hi : i.toInt = j) (hj : j + 5 ≤ L) (kk : ∀ (pk' : Int) (τ' : List Nat) (h' : List tC), LIq N pk' τ' h' px pm ko → LT p l e s m below meth c b D kc ks 737 (lcI px pm ko i) [] h') : LT p l e s m below meth c b D (3 + kc) (14 + ks) 639 (lcI px pm ko i) [] h := by
  obtain ⟨⟨c0, c1, hw, tx, tm, tk, ⟨y0, ek⟩, i1, i2, dis, same⟩, su, sa, sp⟩ := id LI
  refine lt_less (kc' := 0 + kc) (ks' := 0 + ks) (by omega) (by omega) ?_
  refine lt_aload_n (pc := 639) C dL_law_639 (.head _) ?_
  refine lt_sld (pc := 640) (n := 1) C dL_law_640 dL_law_641 dL_law_643 dL_law_644 dL_law_645 (.tail _ (.tail _ (.tail _ (.head _)))) hi (by omega) ?_
  refine lt_sld (pc := 646) (n := 2) C dL_law_646 dL_law_647 dL_law_649 dL_law_650 dL_law_651 (.tail _ (.tail _ (.tail _ (.head _)))) hi (by omega) ?_
  refine lt_sld (pc := 652) (n := 3) C dL_law_652 dL_law_653 dL_law_655 dL_law_656 dL_law_657 (.tail _ (.tail _ (.tail _ (.head _)))) hi (by omega) ?_
  refine lt_sld (pc := 658) (n := 4) C dL_law_658 dL_law_659 dL_law_661 dL_law_662 dL_law_663 (.tail _ (.tail _ (.tail _ (.head _)))) hi (by omega) ?_
  obtain ⟨fs8, e8, -⟩ := wt_obj hw tx (by decide)
  refine lt_callV (kc := kc) (ks := ks) (mc := 0) (ms := 0) (ci := 6) (a := px) (as := [.inl (xs (j + 1)), .inl (xs (j + 2)), .inl (xs (j + 3)), .inl (xs (j + 4))]) (st := []) (pc := 664) C dL_law_664 lkL_100 imX6_label seX6_label rfl e8 rfl (by decide) (by decide) (Nat.le_of_ble_eq_true rfl) (g_X6_label hN2 hN8 c0 c1 hw px tx (xs (j + 1)) (xs (j + 2)) (xs (j + 3)) (xs (j + 4))) (fun rv h1 q1 => ?_)
  obtain ⟨rfl, x9, rfl, -⟩ := q1
  show LT p l e s m below meth c b D _ _ 667 _ [.inl x9] _
  refine lt_pop (pc := 667) C dL_law_667 ?_
  have LI1 := LI; have c0' := c0; have c1' := c1; have hw' := hw; have tm' := tm; have i1' := i1; have i2' := i2
  obtain ⟨fs9, e9, -⟩ := wt_obj hw' tm' (by decide)
  refine lt_aload_n (pc := 668) C dL_law_668 (.tail _ (.head _)) ?_
  refine lt_sld (pc := 669) (n := 1) C dL_law_669 dL_law_670 dL_law_672 dL_law_673 dL_law_674 (.tail _ (.tail _ (.tail _ (.head _)))) hi (by omega) ?_
  refine lt_sld (pc := 675) (n := 2) C dL_law_675 dL_law_676 dL_law_678 dL_law_679 dL_law_680 (.tail _ (.tail _ (.tail _ (.head _)))) hi (by omega) ?_
  refine lt_sld (pc := 681) (n := 3) C dL_law_681 dL_law_682 dL_law_684 dL_law_685 dL_law_686 (.tail _ (.tail _ (.tail _ (.head _)))) hi (by omega) ?_
  refine lt_sld (pc := 687) (n := 4) C dL_law_687 dL_law_688 dL_law_690 dL_law_691 dL_law_692 (.tail _ (.tail _ (.tail _ (.head _)))) hi (by omega) ?_
  refine lt_less (kc' := 0 + kc) (ks' := 0 + ks) (by omega) (by omega) ?_
  refine lt_callV (kc := kc) (ks := ks) (mc := 0) (ms := 0) (ci := 7) (a := pm) (as := [.inl (xs (j + 1)), .inl (xs (j + 2)), .inl (xs (j + 3)), .inl (xs (j + 4))]) (st := []) (pc := 693) C dL_law_693 lkL_104 imX7_label seX7_label rfl e9 rfl (by decide) (by decide) (Nat.le_of_ble_eq_true rfl) (g_X7_label hN2 hN8 c0' c1' hw' pm tm' (xs (j + 1)) (xs (j + 2)) (xs (j + 3)) (xs (j + 4))) (fun rv2 h2 q2 => ?_)
  obtain ⟨w2, f2, x8, rfl, -⟩ := q2
  have LI2 := lq_m LI1 w2 f2 rfl rfl rfl rfl rfl rfl (fun j => rfl) rfl rfl rfl (i1_fr f2 rfl rfl rfl rfl i1') (i2_fr f2 rfl rfl i2')
  show LT p l e s m below meth c b D _ _ 696 _ [.inl x8] _
  refine lt_pop (pc := 696) C dL_law_696 ?_
  refine lt_goto (pc := 697) (tgt := 737) C dL_law_697 (by decide) ?_
  exact kk _ _ _ LI2
set_option maxHeartbeats 2000000 in
theorem lw_c12 (C : LC p l s m meth c b L xs) (hl0 : l.stackTraces = false) (hN2 : 2 ≤ N) (hN8 : N ≤ 8) (LI : LIq N pk τ h px pm ko) {i : Int32} {j : Nat} (hi : i.toInt = j) (hj : j + 5 ≤ L) (kk : ∀ (pk' : Int) (τ' : List Nat) (h' : List tC), LIq N pk' τ' h' px pm ko → LT p l e s m below meth c b D kc ks 737 (lcI px pm ko i) [] h') : LT p l e s m below meth c b D (3 + kc) (14 + ks) 700 (lcI px pm ko i) [] h := by
  obtain ⟨⟨c0, c1, hw, tx, tm, tk, ⟨y0, ek⟩, i1, i2, dis, same⟩, su, sa, sp⟩ := id LI
  refine lt_less (kc' := 0 + kc) (ks' := 0 + ks) (by omega) (by omega) ?_
  refine lt_aload_n (pc := 700) C dL_law_700 (.head _) ?_
  refine lt_sld (pc := 701) (n := 1) C dL_law_701 dL_law_702 dL_law_704 dL_law_705 dL_law_706 (.tail _ (.tail _ (.tail _ (.head _)))) hi (by omega) ?_
  refine lt_sld (pc := 707) (n := 2) C dL_law_707 dL_law_708 dL_law_710 dL_law_711 dL_law_712 (.tail _ (.tail _ (.tail _ (.head _)))) hi (by omega) ?_
  obtain ⟨fs8, e8, -⟩ := wt_obj hw tx (by decide)
  refine lt_callV (kc := kc) (ks := ks) (mc := 0) (ms := 0) (ci := 6) (a := px) (as := [.inl (xs (j + 1)), .inl (xs (j + 2))]) (st := []) (pc := 713) C dL_law_713 lkL_105 imX6_count seX6_count rfl e8 rfl (by decide) (by decide) (Nat.le_of_ble_eq_true rfl) (g_X6_count hN2 hN8 c0 c1 hw px tx (xs (j + 1)) (xs (j + 2))) (fun rv h1 q1 => ?_)
  obtain ⟨rfl, x9, rfl, -⟩ := q1
  show LT p l e s m below meth c b D _ _ 716 _ [.inl x9] _
  refine lt_pop (pc := 716) C dL_law_716 ?_
  have LI1 := LI; have c0' := c0; have c1' := c1; have hw' := hw; have tm' := tm; have i1' := i1; have i2' := i2
  obtain ⟨fs9, e9, -⟩ := wt_obj hw' tm' (by decide)
  refine lt_aload_n (pc := 717) C dL_law_717 (.tail _ (.head _)) ?_
  refine lt_sld (pc := 718) (n := 1) C dL_law_718 dL_law_719 dL_law_721 dL_law_722 dL_law_723 (.tail _ (.tail _ (.tail _ (.head _)))) hi (by omega) ?_
  refine lt_sld (pc := 724) (n := 2) C dL_law_724 dL_law_725 dL_law_727 dL_law_728 dL_law_729 (.tail _ (.tail _ (.tail _ (.head _)))) hi (by omega) ?_
  refine lt_less (kc' := 0 + kc) (ks' := 0 + ks) (by omega) (by omega) ?_
  refine lt_callV (kc := kc) (ks := ks) (mc := 0) (ms := 0) (ci := 7) (a := pm) (as := [.inl (xs (j + 1)), .inl (xs (j + 2))]) (st := []) (pc := 730) C dL_law_730 lkL_108 imX7_count seX7_count rfl e9 rfl (by decide) (by decide) (Nat.le_of_ble_eq_true rfl) (g_X7_count hN2 hN8 c0' c1' hw' pm tm' (xs (j + 1)) (xs (j + 2))) (fun rv2 h2 q2 => ?_)
  obtain ⟨w2, f2, x8, rfl, -⟩ := q2
  have LI2 := lq_m LI1 w2 f2 rfl rfl rfl rfl rfl rfl (fun j => rfl) rfl rfl rfl (i1_fr f2 rfl rfl rfl rfl i1') (i2_fr f2 rfl rfl i2')
  show LT p l e s m below meth c b D _ _ 733 _ [.inl x8] _
  refine lt_pop (pc := 733) C dL_law_733 ?_
  refine lt_goto (pc := 734) (tgt := 737) C dL_law_734 (by decide) ?_
  exact kk _ _ _ LI2
set_option maxHeartbeats 2000000 in
theorem lw_loop (C : LC p l s m meth c b L xs) (hl0 : l.stackTraces = false) (hN2 : 2 ≤ N) (hN8 : N ≤ 8) : ∀ (n : Nat) (i : Int32) (j : Nat) (pk : Int) (τ : List Nat) (h : List tC), L ≤ j + 5 * n → j ≤ 2600 → i.toInt = j → LIq N pk τ h px pm ko → LT p l e s m below meth c b D (3 * n) (14 * n) 33 (lcI px pm ko i) [] h := by
  intro n
  induction n with
  | zero =>
    intro i j pk τ h hn hj hi LI
    exact lt_head C (.tail _ (.tail _ (.tail _ (.head _)))) hi (by omega) (fun _ => lt_end C) (fun z => by omega)
  | succ n ih =>
    intro i j pk τ h hn hj hi LI
    have hL := C.2.2.2.2.2.2.2
    refine lt_head C (.tail _ (.tail _ (.tail _ (.head _)))) hi (by omega) (fun _ => lt_end C) (fun z => ?_)
    refine lt_less (kc' := 3 + 3 * n) (ks' := 14 + 14 * n) (by omega) (by omega) ?_
    have K : ∀ (pk' : Int) (τ' : List Nat) (h' : List tC), LIq N pk' τ' h' px pm ko → LT p l e s m below meth c b D (3 * n) (14 * n) 737 (lcI px pm ko i) [] h' := by
      intro pk' τ' h' LI'
      refine lt_iinc (pc := 737) C dL_law_737 (.tail _ (.tail _ (.tail _ (.head _)))) (by decide) (by decide) ?_
      refine lt_goto (pc := 740) (tgt := 33) C dL_law_740 (by decide) ?_
      refine lt_loc (lcI px pm ko (i + Int32.ofInt 5)) (by simp [tSt, lcI]) ?_
      have e5 : (Int32.ofInt 5).toInt = 5 := by decide
      exact ih (i + Int32.ofInt 5) (j + 5) pk' τ' h' (by omega) (by omega) (by rw [i_add (by omega)]; omega) LI'
    refine lt_switch C (.tail _ (.tail _ (.tail _ (.head _)))) hi z (fun t ht => ?_)
    simp only [List.mem_cons, List.not_mem_nil, or_false] at ht
    rcases ht with rfl | rfl | rfl | rfl | rfl | rfl | rfl | rfl | rfl | rfl | rfl | rfl | rfl | rfl
    · exact lw_c0 C hl0 hN2 hN8 LI hi z K
    · exact lw_c1 C hl0 hN2 hN8 LI hi z K
    · exact lw_c2 C hl0 hN2 hN8 LI hi z K
    · exact lw_c3 C hl0 hN2 hN8 LI hi z K
    · exact lw_c4 C hl0 hN2 hN8 LI hi z K
    · exact lw_c5 C hl0 hN2 hN8 LI hi z K
    · exact lw_c6 C hl0 hN2 hN8 LI hi z K
    · exact lw_c7 C hl0 hN2 hN8 LI hi z K
    · exact lw_c8 C hl0 hN2 hN8 LI hi z K
    · exact lw_c9 C hl0 hN2 hN8 LI hi z K
    · exact lw_c10 C hl0 hN2 hN8 LI hi z K
    · exact lw_c11 C hl0 hN2 hN8 LI hi z K
    · exact lw_c12 C hl0 hN2 hN8 LI hi z K
    · exact lt_less (by omega) (by omega) (K _ _ _ LI)
end LCS
