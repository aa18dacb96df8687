theorem p29_PX : ∀ r j, 29 ≤ r → PX r j = true := fun r j h => by simp [PX, h]
abbrev lcI (px pm ko : Nat) (i : Int32) : tL := [(1, .inr (some px)), (2, .inr (some pm)), (3, .inr (some ko)), (4, .inl i)]
section LCS
variable {p : Program} {l : Launch} {e : Env} {s : State} {m : MethodId} {below : List Frame} {meth : Method} {c : Code} {b L : Nat} {xs : Nat → Int32} {D : va_G} {kc ks pc : Nat} {h : List tC} {N : Nat} {pk : Int} {τ : List Nat} {px pm ko : Nat}
set_option maxHeartbeats 2000000 in
theorem lw_c0 (C : LC p l s m meth c b L xs) (hl0 : l.stackTraces = false) (hN2 : 2 ≤ N) (hN8 : N ≤ 8) (LI : LIq N pk τ h px pm ko) {i : Int32} {j : Nat} (hi : i.toInt = j) (hj : j + 5 ≤ L) (kk : ∀ (pk' : Int) (τ' : List Nat) (h' : List tC), LIq N pk' τ' h' px pm ko → LT p l e s m below meth c b D kc ks 720 (lcI px pm ko i) [] h') : LT p l e s m below meth c b D (3 + kc) (14 + ks) 116 (lcI px pm ko i) [] h := by
  obtain ⟨⟨c0, c1, hw, tx, tm, tk, ⟨y0, ek⟩, i1, i2, dis, same⟩, su, sa, sp⟩ := id LI
  refine lt_less (kc' := 1 + kc) (ks' := 6 + ks) (by omega) (by omega) ?_
  refine lt_aload_n (pc := 116) C dL_law_116 (.head _) ?_
  refine lt_sld (pc := 117) (n := 1) C dL_law_117 dL_law_118 dL_law_120 dL_law_121 dL_law_122 (.tail _ (.tail _ (.tail _ (.head _)))) hi (by omega) ?_
  refine lt_sld (pc := 123) (n := 2) C dL_law_123 dL_law_124 dL_law_126 dL_law_127 dL_law_128 (.tail _ (.tail _ (.tail _ (.head _)))) hi (by omega) ?_
  refine lt_sld (pc := 129) (n := 3) C dL_law_129 dL_law_130 dL_law_132 dL_law_133 dL_law_134 (.tail _ (.tail _ (.tail _ (.head _)))) hi (by omega) ?_
  refine lt_sld (pc := 135) (n := 4) C dL_law_135 dL_law_136 dL_law_138 dL_law_139 dL_law_140 (.tail _ (.tail _ (.tail _ (.head _)))) hi (by omega) ?_
  refine lt_callH (kc := kc) (ks := ks) (mc := 1) (ms := 6) (as := [.inr (some px), .inl (xs (j + 1)), .inl (xs (j + 2)), .inl (xs (j + 3)), .inl (xs (j + 4))]) (st := []) (pc := 141) C dL_law_141 mlL_53 chL_lay smL_lay kiL dsL_lay rfl (by decide) (by decide) (Nat.le_of_ble_eq_true rfl) (g_L_lay hl0 hN2 hN8 c0 c1 hw px tx (xs (j + 1)) (xs (j + 2)) (xs (j + 3)) (xs (j + 4))) (fun rv h1 q1 => ?_)
  have Q1 : ∃ k : Int32, rv = some (.inl k) ∧ LHL N pk τ h h1 px (xs (j + 1)) (xs (j + 2)) (xs (j + 3)) (xs (j + 4)) k := by
    rcases q1 with ⟨k, e9, hk, rv0, w, ld, rn, d1, d2, d3, -⟩ | ⟨k, e9, hk, eh, c9⟩ | ⟨k, e9, hk, eh, c9, c8⟩
    · exact ⟨k, e9, Or.inl ⟨hk, w, ld, rn, d1, d2, d3⟩⟩
    · exact ⟨k, e9, Or.inr (Or.inl ⟨hk, eh, c9⟩)⟩
    · exact ⟨k, e9, Or.inr (Or.inr ⟨hk, eh, c9, c8⟩)⟩
  obtain ⟨k, rfl, Q1⟩ := Q1
  obtain ⟨hw', i1', i2'⟩ := lay_mid LI.1 Q1
  have tm' := tm; have c0' := c0; have c1' := c1
  show LT p l e s m below meth c b D _ _ 144 _ [.inl k] _
  refine lt_istore (pc := 144) C dL_law_144 (by decide) (by decide) ?_
  refine lt_loc (lcI px pm ko i) (by simp [tSt, lcI]) ?_
  obtain ⟨fs9, e9, -⟩ := wt_obj hw' tm' (by decide)
  refine lt_aload_n (pc := 146) C dL_law_146 (.tail _ (.head _)) ?_
  refine lt_sld (pc := 147) (n := 1) C dL_law_147 dL_law_148 dL_law_150 dL_law_151 dL_law_152 (.tail _ (.tail _ (.tail _ (.head _)))) hi (by omega) ?_
  refine lt_sld (pc := 153) (n := 2) C dL_law_153 dL_law_154 dL_law_156 dL_law_157 dL_law_158 (.tail _ (.tail _ (.tail _ (.head _)))) hi (by omega) ?_
  refine lt_sld (pc := 159) (n := 3) C dL_law_159 dL_law_160 dL_law_162 dL_law_163 dL_law_164 (.tail _ (.tail _ (.tail _ (.head _)))) hi (by omega) ?_
  refine lt_sld (pc := 165) (n := 4) C dL_law_165 dL_law_166 dL_law_168 dL_law_169 dL_law_170 (.tail _ (.tail _ (.tail _ (.head _)))) hi (by omega) ?_
  refine lt_less (kc' := 0 + kc) (ks' := 0 + ks) (by omega) (by omega) ?_
  refine lt_callV (kc := kc) (ks := ks) (mc := 0) (ms := 0) (ci := 7) (a := pm) (as := [.inl (xs (j + 1)), .inl (xs (j + 2)), .inl (xs (j + 3)), .inl (xs (j + 4))]) (st := []) (pc := 171) C dL_law_171 lkL_56 imX7_lay seX7_lay rfl e9 rfl (by decide) (by decide) (Nat.le_of_ble_eq_true rfl) (g_X7_layI hN2 hN8 c0' c1' hw' pm tm' (xs (j + 1)) (xs (j + 2)) (xs (j + 3)) (xs (j + 4)) i1' i2') (fun rv2 h2 q2 => ?_)
  obtain ⟨w2, f2, k1, rfl, t, thr, hm⟩ := q2
  obtain ⟨ht, LI2⟩ := lay_end LI Q1 w2 f2 k1 hm
  show LT p l e s m below meth c b D _ _ 174 _ [] _
  refine lt_goto (pc := 174) (tgt := 720) C dL_law_174 (by decide) ?_
  exact kk _ _ _ LI2
set_option maxHeartbeats 2000000 in
theorem lw_c1 (C : LC p l s m meth c b L xs) (hl0 : l.stackTraces = false) (hN2 : 2 ≤ N) (hN8 : N ≤ 8) (LI : LIq N pk τ h px pm ko) {i : Int32} {j : Nat} (hi : i.toInt = j) (hj : j + 5 ≤ L) (kk : ∀ (pk' : Int) (τ' : List Nat) (h' : List tC), LIq N pk' τ' h' px pm ko → LT p l e s m below meth c b D kc ks 720 (lcI px pm ko i) [] h') : LT p l e s m below meth c b D (3 + kc) (14 + ks) 177 (lcI px pm ko i) [] h := by
  obtain ⟨⟨c0, c1, hw, tx, tm, tk, ⟨y0, ek⟩, i1, i2, dis, same⟩, su, sa, sp⟩ := id LI
  refine lt_less (kc' := 3 + kc) (ks' := 14 + ks) (by omega) (by omega) ?_
  refine lt_aload_n (pc := 177) C dL_law_177 (.head _) ?_
  refine lt_sld (pc := 178) (n := 1) C dL_law_178 dL_law_179 dL_law_181 dL_law_182 dL_law_183 (.tail _ (.tail _ (.tail _ (.head _)))) hi (by omega) ?_
  refine lt_sld (pc := 184) (n := 2) C dL_law_184 dL_law_185 dL_law_187 dL_law_188 dL_law_189 (.tail _ (.tail _ (.tail _ (.head _)))) hi (by omega) ?_
  refine lt_bool (pc := 190) C dL_law_190 dL_law_193 dL_law_194 dL_law_197 (fun v9 ev9 lv9 uv9 => ?_)
  refine lt_callH (kc := kc) (ks := ks) (mc := 3) (ms := 14) (as := [.inr (some px), .inl (xs (j + 1)), .inl (v9)]) (st := []) (pc := 198) C dL_law_198 mlL_57 chL_turn smL_turn kiL dsL_turn rfl (by decide) (by decide) (Nat.le_of_ble_eq_true rfl) (g_L_turn hl0 hN2 hN8 c0 c1 hw px tx (xs (j + 1)) (v9) lv9 uv9) (fun rv h1 q1 => ?_)
  have Q1 : ∃ (k : Int32) (τ1 : List Nat), rv = some (.inl k) ∧ THL N pk τ τ1 h h1 px (xs (j + 1)) (v9) k := by
    rcases q1 with ⟨k, e9, hk, rv0, ⟨τ1, t1, w1, f1⟩, -, R9⟩ | ⟨k, e9, hk, eh, c9⟩ | ⟨k, e9, hk, eh, c9, c8⟩
    · exact ⟨k, τ1, e9, Or.inl ⟨hk, t1, w1, f1, R9⟩⟩
    · exact ⟨k, τ, e9, Or.inr (Or.inl ⟨hk, rfl, eh, c9⟩)⟩
    · exact ⟨k, τ, e9, Or.inr (Or.inr ⟨hk, rfl, eh, c9, c8⟩)⟩
  obtain ⟨k, τ1, rfl, Q1⟩ := Q1
  obtain ⟨c0', c1', hw', tx', tm', tk', ek', i1', i2', dis', same'⟩ := turn_mid LI.1 Q1
  show LT p l e s m below meth c b D _ _ 201 _ [.inl k] _
  refine lt_istore (pc := 201) C dL_law_201 (by decide) (by decide) ?_
  refine lt_loc ((5, .inl k) :: lcI px pm ko i) (by simp [tSt, lcI]) ?_
  obtain ⟨fs9, e9, -⟩ := wt_obj hw' tm' (by decide)
  refine lt_aload_n (pc := 203) C dL_law_203 (.tail _ (.tail _ (.head _))) ?_
  refine lt_sld (pc := 204) (n := 1) C dL_law_204 dL_law_205 dL_law_207 dL_law_208 dL_law_209 (.tail _ (.tail _ (.tail _ (.tail _ (.head _))))) hi (by omega) ?_
  refine lt_sld (pc := 210) (n := 2) C dL_law_210 dL_law_211 dL_law_213 dL_law_214 dL_law_215 (.tail _ (.tail _ (.tail _ (.tail _ (.head _))))) hi (by omega) ?_
  refine lt_bool (pc := 216) C dL_law_216 dL_law_219 dL_law_220 dL_law_223 (fun w9 ew9 lw9 uw9 => ?_)
  have ew : w9 = v9 := by rw [ew9, ev9]
  subst ew
  refine lt_less (kc' := 0 + kc) (ks' := 0 + ks) (by omega) (by omega) ?_
  refine lt_callV (kc := kc) (ks := ks) (mc := 0) (ms := 0) (ci := 7) (a := pm) (as := [.inl (xs (j + 1)), .inl (w9)]) (st := []) (pc := 224) C dL_law_224 lkL_60 imX7_turn seX7_turn rfl e9 rfl (by decide) (by decide) (Nat.le_of_ble_eq_true rfl) (g_X7_turnE hN2 hN8 c0' c1' hw' pm tm' (xs (j + 1)) (w9) lw9 uw9 i1' i2') (fun rv2 h2 q2 => ?_)
  obtain ⟨w2, f2, j1, j2, rfl, t, thr, hm⟩ := q2
  obtain ⟨ht, LI2⟩ := turn_end LI Q1 w2 f2 j1 j2 hm
  show LT p l e s m below meth c b D _ _ 227 _ [] _
  obtain ⟨fs7, e7, -⟩ := wt_obj w2 tm' (by decide)
  refine lt_aload_n (pc := 227) C dL_law_227 (.tail _ (.tail _ (.head _))) ?_
  refine lt_less (kc' := 0 + kc) (ks' := 0 + ks) (by omega) (by omega) ?_
  refine lt_callV (kc := kc) (ks := ks) (mc := 0) (ms := 0) (ci := 7) (a := pm) (as := []) (st := []) (pc := 228) C dL_law_228 lkL_61 imX7_thrown seX7_thrown rfl e7 rfl (by decide) (by decide) (Nat.le_of_ble_eq_true rfl) (g_X7_thrownE pm thr) (fun rv3 h3 q3 => ?_)
  obtain ⟨rfl, rfl⟩ := q3
  show LT p l e s m below meth c b D _ _ 231 _ [.inl t] _
  refine lt_iload (pc := 231) C dL_law_231 (.head _) ?_
  refine lt_icmpeq (pc := 233) (tgt := 238) C dL_law_233 (by decide) (fun _ => ?_) (fun z => absurd (Int32.toInt.inj ht) z)
  refine lt_goto (pc := 238) (tgt := 720) C dL_law_238 (by decide) ?_
  refine lt_loc (lcI px pm ko i) (by simp [lcI]) ?_
  exact kk _ _ _ LI2
set_option maxHeartbeats 2000000 in
theorem lw_c2 (C : LC p l s m meth c b L xs) (hl0 : l.stackTraces = false) (hN2 : 2 ≤ N) (hN8 : N ≤ 8) (LI : LIq N pk τ h px pm ko) {i : Int32} {j : Nat} (hi : i.toInt = j) (hj : j + 5 ≤ L) (kk : ∀ (pk' : Int) (τ' : List Nat) (h' : List tC), LIq N pk' τ' h' px pm ko → LT p l e s m below meth c b D kc ks 720 (lcI px pm ko i) [] h') : LT p l e s m below meth c b D (3 + kc) (14 + ks) 241 (lcI px pm ko i) [] h := by
  obtain ⟨⟨c0, c1, hw, tx, tm, tk, ⟨y0, ek⟩, i1, i2, dis, same⟩, su, sa, sp⟩ := id LI
  refine lt_less (kc' := 3 + kc) (ks' := 14 + ks) (by omega) (by omega) ?_
  refine lt_aload_n (pc := 241) C dL_law_241 (.head _) ?_
  refine lt_sld (pc := 242) (n := 1) C dL_law_242 dL_law_243 dL_law_245 dL_law_246 dL_law_247 (.tail _ (.tail _ (.tail _ (.head _)))) hi (by omega) ?_
  refine lt_sld (pc := 248) (n := 2) C dL_law_248 dL_law_249 dL_law_251 dL_law_252 dL_law_253 (.tail _ (.tail _ (.tail _ (.head _)))) hi (by omega) ?_
  refine lt_callH (kc := kc) (ks := ks) (mc := 3) (ms := 14) (as := [.inr (some px), .inl (xs (j + 1)), .inl (xs (j + 2))]) (st := []) (pc := 254) C dL_law_254 mlL_65 chL_attach smL_attach kiL dsL_attach rfl (by decide) (by decide) (Nat.le_of_ble_eq_true rfl) (g_L_attach hl0 hN2 hN8 c0 c1 hw px tx (xs (j + 1)) (xs (j + 2))) (fun rv h1 q1 => ?_)
  have Q1 : ∃ (k : Int32) (τ1 : List Nat), rv = some (.inl k) ∧ AHL N pk τ τ1 h h1 (xs (j + 1)) (xs (j + 2)) k := by
    rcases q1 with ⟨k, e9, hk, rv0, ⟨τ1, t1, w1, f1⟩, -, R9⟩ | ⟨k, e9, hk, eh, c9⟩ | ⟨k, e9, hk, eh, c9, c8⟩
    · exact ⟨k, τ1, e9, Or.inl ⟨hk, t1, w1, f1, R9⟩⟩
    · exact ⟨k, τ, e9, Or.inr (Or.inl ⟨hk, rfl, eh, c9⟩)⟩
    · exact ⟨k, τ, e9, Or.inr (Or.inr ⟨hk, rfl, eh, c9, c8⟩)⟩
  obtain ⟨k, τ1, rfl, Q1⟩ := Q1
  obtain ⟨c0', c1', hw', tx', tm', tk', ek', i1', i2', dis', same'⟩ := attach_mid LI.1 Q1
  show LT p l e s m below meth c b D _ _ 257 _ [.inl k] _
  refine lt_istore (pc := 257) C dL_law_257 (by decide) (by decide) ?_
  refine lt_loc (lcI px pm ko i) (by simp [tSt, lcI]) ?_
  obtain ⟨fs9, e9, -⟩ := wt_obj hw' tm' (by decide)
  refine lt_aload_n (pc := 259) C dL_law_259 (.tail _ (.head _)) ?_
  refine lt_sld (pc := 260) (n := 1) C dL_law_260 dL_law_261 dL_law_263 dL_law_264 dL_law_265 (.tail _ (.tail _ (.tail _ (.head _)))) hi (by omega) ?_
  refine lt_sld (pc := 266) (n := 2) C dL_law_266 dL_law_267 dL_law_269 dL_law_270 dL_law_271 (.tail _ (.tail _ (.tail _ (.head _)))) hi (by omega) ?_
  refine lt_less (kc' := 0 + kc) (ks' := 0 + ks) (by omega) (by omega) ?_
  refine lt_callV (kc := kc) (ks := ks) (mc := 0) (ms := 0) (ci := 7) (a := pm) (as := [.inl (xs (j + 1)), .inl (xs (j + 2))]) (st := []) (pc := 272) C dL_law_272 lkL_68 imX7_attach seX7_attach rfl e9 rfl (by decide) (by decide) (Nat.le_of_ble_eq_true rfl) (g_X7_attachE hN2 hN8 c0' c1' hw' pm tm' (xs (j + 1)) (xs (j + 2)) i1') (fun rv2 h2 q2 => ?_)
  obtain ⟨w2, f2, j1, rfl, t, thr, hm⟩ := q2
  obtain ⟨ht, LI2⟩ := attach_end LI Q1 w2 f2 j1 (i2_fr f2 rfl rfl i2') hm
  show LT p l e s m below meth c b D _ _ 275 _ [] _
  refine lt_goto (pc := 275) (tgt := 720) C dL_law_275 (by decide) ?_
  exact kk _ _ _ LI2
set_option maxHeartbeats 2000000 in
theorem lw_c3 (C : LC p l s m meth c b L xs) (hl0 : l.stackTraces = false) (hN2 : 2 ≤ N) (hN8 : N ≤ 8) (LI : LIq N pk τ h px pm ko) {i : Int32} {j : Nat} (hi : i.toInt = j) (hj : j + 5 ≤ L) (kk : ∀ (pk' : Int) (τ' : List Nat) (h' : List tC), LIq N pk' τ' h' px pm ko → LT p l e s m below meth c b D kc ks 720 (lcI px pm ko i) [] h') : LT p l e s m below meth c b D (3 + kc) (14 + ks) 278 (lcI px pm ko i) [] h := by
  obtain ⟨⟨c0, c1, hw, tx, tm, tk, ⟨y0, ek⟩, i1, i2, dis, same⟩, su, sa, sp⟩ := id LI
  refine lt_less (kc' := 1 + kc) (ks' := 6 + ks) (by omega) (by omega) ?_
  refine lt_aload_n (pc := 278) C dL_law_278 (.head _) ?_
  refine lt_sld (pc := 279) (n := 1) C dL_law_279 dL_law_280 dL_law_282 dL_law_283 dL_law_284 (.tail _ (.tail _ (.tail _ (.head _)))) hi (by omega) ?_
  refine lt_sld (pc := 285) (n := 2) C dL_law_285 dL_law_286 dL_law_288 dL_law_289 dL_law_290 (.tail _ (.tail _ (.tail _ (.head _)))) hi (by omega) ?_
  refine lt_aload_n (pc := 291) C dL_law_291 (.tail _ (.tail _ (.head _))) ?_
  refine lt_callH (kc := kc) (ks := ks) (mc := 1) (ms := 6) (as := [.inr (some px), .inl (xs (j + 1)), .inl (xs (j + 2)), .inr (some ko)]) (st := []) (pc := 292) C dL_law_292 mlL_69 chL_deliver smL_deliver kiL dsL_deliver rfl (by decide) (by decide) (Nat.le_of_ble_eq_true rfl) (g_L_deliver hl0 hN2 hN8 c0 c1 hw px tx (xs (j + 1)) (xs (j + 2)) ko y0 ek tk) (fun rv h1 q1 => ?_)
  have M1 : ∃ k : Int32, rv = some (.inl k) ∧ LIq N pk τ h1 px pm ko := by
    rcases q1 with ⟨k, e9, -, rv0, h0, y, ⟨w1, f1, -⟩, rfl, -⟩ | ⟨k, e9, -, rfl, -⟩
    · exact ⟨k, e9, lq_ko (lq_x LI ⟨[], by simp⟩ w1 f1 rfl rfl rfl rfl rfl rfl p29_PX) y⟩
    · exact ⟨k, e9, LI⟩
  obtain ⟨k, rfl, LI1⟩ := M1
  obtain ⟨⟨c0', c1', hw', tx', tm', tk', ek', i1', i2', dis', same'⟩, su', sa', sp'⟩ := id LI1
  show LT p l e s m below meth c b D _ _ 295 _ [.inl k] _
  refine lt_istore (pc := 295) C dL_law_295 (by decide) (by decide) ?_
  refine lt_loc (lcI px pm ko i) (by simp [tSt, lcI]) ?_
  obtain ⟨fs9, e9, -⟩ := wt_obj hw' tm' (by decide)
  refine lt_aload_n (pc := 297) C dL_law_297 (.tail _ (.head _)) ?_
  refine lt_sld (pc := 298) (n := 1) C dL_law_298 dL_law_299 dL_law_301 dL_law_302 dL_law_303 (.tail _ (.tail _ (.tail _ (.head _)))) hi (by omega) ?_
  refine lt_sld (pc := 304) (n := 2) C dL_law_304 dL_law_305 dL_law_307 dL_law_308 dL_law_309 (.tail _ (.tail _ (.tail _ (.head _)))) hi (by omega) ?_
  refine lt_less (kc' := 0 + kc) (ks' := 0 + ks) (by omega) (by omega) ?_
  refine lt_callV (kc := kc) (ks := ks) (mc := 0) (ms := 0) (ci := 7) (a := pm) (as := [.inl (xs (j + 1)), .inl (xs (j + 2))]) (st := []) (pc := 310) C dL_law_310 lkL_72 imX7_deliver seX7_deliver rfl e9 rfl (by decide) (by decide) (Nat.le_of_ble_eq_true rfl) (g_X7_deliver hN2 hN8 c0' c1' hw' pm tm' (xs (j + 1)) (xs (j + 2)) i1') (fun rv2 h2 q2 => ?_)
  obtain ⟨w2, f2, j1, x8, rfl, -⟩ := q2
  have LI2 := lq_m LI1 w2 f2 rfl rfl rfl rfl rfl rfl (fun j => rfl) rfl rfl rfl j1 (i2_fr f2 rfl rfl i2')
  show LT p l e s m below meth c b D _ _ 313 _ [.inl x8] _
  refine lt_istore (pc := 313) C dL_law_313 (by decide) (by decide) ?_
  refine lt_loc (lcI px pm ko i) (by simp [tSt, lcI]) ?_
  refine lt_goto (pc := 315) (tgt := 720) C dL_law_315 (by decide) ?_
  exact kk _ _ _ LI2
set_option maxHeartbeats 2000000 in
theorem lw_c4 (C : LC p l s m meth c b L xs) (hl0 : l.stackTraces = false) (hN2 : 2 ≤ N) (hN8 : N ≤ 8) (LI : LIq N pk τ h px pm ko) {i : Int32} {j : Nat} (hi : i.toInt = j) (hj : j + 5 ≤ L) (kk : ∀ (pk' : Int) (τ' : List Nat) (h' : List tC), LIq N pk' τ' h' px pm ko → LT p l e s m below meth c b D kc ks 720 (lcI px pm ko i) [] h') : LT p l e s m below meth c b D (3 + kc) (14 + ks) 318 (lcI px pm ko i) [] h := by
  obtain ⟨⟨c0, c1, hw, tx, tm, tk, ⟨y0, ek⟩, i1, i2, dis, same⟩, su, sa, sp⟩ := id LI
  refine lt_less (kc' := 1 + kc) (ks' := 6 + ks) (by omega) (by omega) ?_
  refine lt_aload_n (pc := 318) C dL_law_318 (.head _) ?_
  refine lt_sld (pc := 319) (n := 1) C dL_law_319 dL_law_320 dL_law_322 dL_law_323 dL_law_324 (.tail _ (.tail _ (.tail _ (.head _)))) hi (by omega) ?_
  refine lt_aload_n (pc := 325) C dL_law_325 (.tail _ (.tail _ (.head _))) ?_
  refine lt_callH (kc := kc) (ks := ks) (mc := 1) (ms := 6) (as := [.inr (some px), .inl (xs (j + 1)), .inr (some ko)]) (st := []) (pc := 326) C dL_law_326 mlL_73 chL_run smL_run kiL dsL_run rfl (by decide) (by decide) (Nat.le_of_ble_eq_true rfl) (g_L_run hl0 hN2 hN8 c0 c1 hw px tx (xs (j + 1)) ko y0 ek tk) (fun rv h1 q1 => ?_)
  have M1 : ∃ k : Int32, rv = some (.inl k) ∧ LIq N pk τ h1 px pm ko := by
    rcases q1 with ⟨k, e9, -, rv0, h0, y, ⟨w1, f1, -⟩, rfl, -⟩ | ⟨k, e9, -, rfl, -⟩
    · exact ⟨k, e9, lq_ko (lq_x LI ⟨[], by simp⟩ w1 f1 rfl rfl rfl rfl rfl rfl p29_PX) y⟩
    · exact ⟨k, e9, LI⟩
  obtain ⟨k, rfl, LI1⟩ := M1
  obtain ⟨⟨c0', c1', hw', tx', tm', tk', ek', i1', i2', dis', same'⟩, su', sa', sp'⟩ := id LI1
  show LT p l e s m below meth c b D _ _ 329 _ [.inl k] _
  refine lt_istore (pc := 329) C dL_law_329 (by decide) (by decide) ?_
  refine lt_loc (lcI px pm ko i) (by simp [tSt, lcI]) ?_
  obtain ⟨fs9, e9, -⟩ := wt_obj hw' tm' (by decide)
  refine lt_aload_n (pc := 331) C dL_law_331 (.tail _ (.head _)) ?_
  refine lt_sld (pc := 332) (n := 1) C dL_law_332 dL_law_333 dL_law_335 dL_law_336 dL_law_337 (.tail _ (.tail _ (.tail _ (.head _)))) hi (by omega) ?_
  refine lt_less (kc' := 0 + kc) (ks' := 0 + ks) (by omega) (by omega) ?_
  refine lt_callV (kc := kc) (ks := ks) (mc := 0) (ms := 0) (ci := 7) (a := pm) (as := [.inl (xs (j + 1))]) (st := []) (pc := 338) C dL_law_338 lkL_76 imX7_run seX7_run rfl e9 rfl (by decide) (by decide) (Nat.le_of_ble_eq_true rfl) (g_X7_run hN2 hN8 c0' c1' hw' pm tm' (xs (j + 1)) i1') (fun rv2 h2 q2 => ?_)
  obtain ⟨w2, f2, j1, x8, rfl, -⟩ := q2
  have LI2 := lq_m LI1 w2 f2 rfl rfl rfl rfl rfl rfl (fun j => rfl) rfl rfl rfl j1 (i2_fr f2 rfl rfl i2')
  show LT p l e s m below meth c b D _ _ 341 _ [.inl x8] _
  refine lt_istore (pc := 341) C dL_law_341 (by decide) (by decide) ?_
  refine lt_loc (lcI px pm ko i) (by simp [tSt, lcI]) ?_
  refine lt_goto (pc := 343) (tgt := 720) C dL_law_343 (by decide) ?_
  exact kk _ _ _ LI2
set_option maxHeartbeats 2000000 in
theorem lw_c5 (C : LC p l s m meth c b L xs) (hl0 : l.stackTraces = false) (hN2 : 2 ≤ N) (hN8 : N ≤ 8) (LI : LIq N pk τ h px pm ko) {i : Int32} {j : Nat} (hi : i.toInt = j) (hj : j + 5 ≤ L) (kk : ∀ (pk' : Int) (τ' : List Nat) (h' : List tC), LIq N pk' τ' h' px pm ko → LT p l e s m below meth c b D kc ks 720 (lcI px pm ko i) [] h') : LT p l e s m below meth c b D (3 + kc) (14 + ks) 346 (lcI px pm ko i) [] h := by
  obtain ⟨⟨c0, c1, hw, tx, tm, tk, ⟨y0, ek⟩, i1, i2, dis, same⟩, su, sa, sp⟩ := id LI
  refine lt_less (kc' := 1 + kc) (ks' := 6 + ks) (by omega) (by omega) ?_
  refine lt_aload_n (pc := 346) C dL_law_346 (.head _) ?_
  refine lt_sld (pc := 347) (n := 1) C dL_law_347 dL_law_348 dL_law_350 dL_law_351 dL_law_352 (.tail _ (.tail _ (.tail _ (.head _)))) hi (by omega) ?_
  refine lt_sld (pc := 353) (n := 2) C dL_law_353 dL_law_354 dL_law_356 dL_law_357 dL_law_358 (.tail _ (.tail _ (.tail _ (.head _)))) hi (by omega) ?_
  refine lt_sld (pc := 359) (n := 3) C dL_law_359 dL_law_360 dL_law_362 dL_law_363 dL_law_364 (.tail _ (.tail _ (.tail _ (.head _)))) hi (by omega) ?_
  refine lt_aload_n (pc := 365) C dL_law_365 (.tail _ (.tail _ (.head _))) ?_
  refine lt_callH (kc := kc) (ks := ks) (mc := 1) (ms := 6) (as := [.inr (some px), .inl (xs (j + 1)), .inl (xs (j + 2)), .inl (xs (j + 3)), .inr (some ko)]) (st := []) (pc := 366) C dL_law_366 mlL_77 chL_spoil smL_spoil kiL dsL_spoil rfl (by decide) (by decide) (Nat.le_of_ble_eq_true rfl) (g_L_spoil hl0 hN2 hN8 c0 c1 hw px tx (xs (j + 1)) (xs (j + 2)) (xs (j + 3)) ko y0 ek tk) (fun rv h1 q1 => ?_)
  have M1 : ∃ k : Int32, rv = some (.inl k) ∧ LIq N pk τ h1 px pm ko := by
    rcases q1 with ⟨k, e9, -, rv0, h0, y, ⟨w1, f1, -⟩, rfl⟩ | ⟨k, e9, -, rfl, -⟩
    · exact ⟨k, e9, lq_ko (lq_x LI ⟨[], by simp⟩ w1 f1 rfl rfl rfl rfl rfl rfl p29_PX) y⟩
    · exact ⟨k, e9, LI⟩
  obtain ⟨k, rfl, LI1⟩ := M1
  obtain ⟨⟨c0', c1', hw', tx', tm', tk', ek', i1', i2', dis', same'⟩, su', sa', sp'⟩ := id LI1
  show LT p l e s m below meth c b D _ _ 369 _ [.inl k] _
  refine lt_istore (pc := 369) C dL_law_369 (by decide) (by decide) ?_
  refine lt_loc (lcI px pm ko i) (by simp [tSt, lcI]) ?_
  obtain ⟨fs9, e9, -⟩ := wt_obj hw' tm' (by decide)
  refine lt_aload_n (pc := 371) C dL_law_371 (.tail _ (.head _)) ?_
  refine lt_sld (pc := 372) (n := 1) C dL_law_372 dL_law_373 dL_law_375 dL_law_376 dL_law_377 (.tail _ (.tail _ (.tail _ (.head _)))) hi (by omega) ?_
  refine lt_sld (pc := 378) (n := 2) C dL_law_378 dL_law_379 dL_law_381 dL_law_382 dL_law_383 (.tail _ (.tail _ (.tail _ (.head _)))) hi (by omega) ?_
  refine lt_sld (pc := 384) (n := 3) C dL_law_384 dL_law_385 dL_law_387 dL_law_388 dL_law_389 (.tail _ (.tail _ (.tail _ (.head _)))) hi (by omega) ?_
  refine lt_less (kc' := 0 + kc) (ks' := 0 + ks) (by omega) (by omega) ?_
  refine lt_callV (kc := kc) (ks := ks) (mc := 0) (ms := 0) (ci := 7) (a := pm) (as := [.inl (xs (j + 1)), .inl (xs (j + 2)), .inl (xs (j + 3))]) (st := []) (pc := 390) C dL_law_390 lkL_80 imX7_spoil seX7_spoil rfl e9 rfl (by decide) (by decide) (Nat.le_of_ble_eq_true rfl) (g_X7_spoil hN2 hN8 c0' c1' hw' pm tm' (xs (j + 1)) (xs (j + 2)) (xs (j + 3))) (fun rv2 h2 q2 => ?_)
  obtain ⟨w2, f2, x8, rfl, -⟩ := q2
  have LI2 := lq_m LI1 w2 f2 rfl rfl rfl rfl rfl rfl (fun j => rfl) rfl rfl rfl (i1_fr f2 rfl rfl rfl rfl i1') (i2_fr f2 rfl rfl i2')
  show LT p l e s m below meth c b D _ _ 393 _ [.inl x8] _
  refine lt_istore (pc := 393) C dL_law_393 (by decide) (by decide) ?_
  refine lt_loc (lcI px pm ko i) (by simp [tSt, lcI]) ?_
  refine lt_goto (pc := 395) (tgt := 720) C dL_law_395 (by decide) ?_
  exact kk _ _ _ LI2
set_option maxHeartbeats 2000000 in
theorem lw_c6 (C : LC p l s m meth c b L xs) (hl0 : l.stackTraces = false) (hN2 : 2 ≤ N) (hN8 : N ≤ 8) (LI : LIq N pk τ h px pm ko) {i : Int32} {j : Nat} (hi : i.toInt = j) (hj : j + 5 ≤ L) (kk : ∀ (pk' : Int) (τ' : List Nat) (h' : List tC), LIq N pk' τ' h' px pm ko → LT p l e s m below meth c b D kc ks 720 (lcI px pm ko i) [] h') : LT p l e s m below meth c b D (3 + kc) (14 + ks) 398 (lcI px pm ko i) [] h := by
  obtain ⟨⟨c0, c1, hw, tx, tm, tk, ⟨y0, ek⟩, i1, i2, dis, same⟩, su, sa, sp⟩ := id LI
  refine lt_less (kc' := 2 + kc) (ks' := 11 + ks) (by omega) (by omega) ?_
  refine lt_aload_n (pc := 398) C dL_law_398 (.head _) ?_
  refine lt_sld (pc := 399) (n := 1) C dL_law_399 dL_law_400 dL_law_402 dL_law_403 dL_law_404 (.tail _ (.tail _ (.tail _ (.head _)))) hi (by omega) ?_
  refine lt_sld (pc := 405) (n := 2) C dL_law_405 dL_law_406 dL_law_408 dL_law_409 dL_law_410 (.tail _ (.tail _ (.tail _ (.head _)))) hi (by omega) ?_
  refine lt_sld (pc := 411) (n := 3) C dL_law_411 dL_law_412 dL_law_414 dL_law_415 dL_law_416 (.tail _ (.tail _ (.tail _ (.head _)))) hi (by omega) ?_
  refine lt_aload_n (pc := 417) C dL_law_417 (.tail _ (.tail _ (.head _))) ?_
  refine lt_callH (kc := kc) (ks := ks) (mc := 2) (ms := 11) (as := [.inr (some px), .inl (xs (j + 1)), .inl (xs (j + 2)), .inl (xs (j + 3)), .inr (some ko)]) (st := []) (pc := 418) C dL_law_418 mlL_81 chL_inject smL_inject kiL dsL_inject rfl (by decide) (by decide) (Nat.le_of_ble_eq_true rfl) (g_L_inject hl0 hN2 hN8 c0 c1 hw px tx (xs (j + 1)) (xs (j + 2)) (xs (j + 3)) ko y0 ek tk) (fun rv h1 q1 => ?_)
  have Q1 : ∃ (k : Int32) (pk1 : Int) (τ1 : List Nat), rv = some (.inl k) ∧ IHL N pk pk1 τ τ1 h h1 ko (xs (j + 1)) (xs (j + 2)) (xs (j + 3)) k := by
    rcases q1 with ⟨k, e9, hk, rv0, h0, y, ⟨⟨τ1, t1, w1, f1⟩, ⟨x9, ex9, px9⟩, R9, b1, b2, b3⟩, eh, ey⟩ | ⟨k, e9, hk, eh, c9⟩ | ⟨k, e9, hk, eh, c9, c8⟩
    · refine ⟨k, pk + 1, τ1, e9, Or.inl ⟨hk, rfl, t1, ⟨h0, y, w1, f1, ?_, eh⟩, R9, b1, b2, b3⟩⟩
      rw [ex9] at ey
      cases ey
      exact px9
    · exact ⟨k, pk, τ, e9, Or.inr (Or.inl ⟨hk, rfl, rfl, eh, c9⟩)⟩
    · exact ⟨k, pk, τ, e9, Or.inr (Or.inr ⟨hk, rfl, rfl, eh, c9, c8⟩)⟩
  obtain ⟨k, pk1, τ1, rfl, Q1⟩ := Q1
  obtain ⟨c0', c1', hw', tx', tm', tk', ek', i1', i2', dis', same'⟩ := (inj_mid LI Q1).1
  show LT p l e s m below meth c b D _ _ 421 _ [.inl k] _
  refine lt_istore (pc := 421) C dL_law_421 (by decide) (by decide) ?_
  refine lt_loc (lcI px pm ko i) (by simp [tSt, lcI]) ?_
  obtain ⟨fs9, e9, -⟩ := wt_obj hw' tm' (by decide)
  refine lt_aload_n (pc := 423) C dL_law_423 (.tail _ (.head _)) ?_
  refine lt_sld (pc := 424) (n := 1) C dL_law_424 dL_law_425 dL_law_427 dL_law_428 dL_law_429 (.tail _ (.tail _ (.tail _ (.head _)))) hi (by omega) ?_
  refine lt_sld (pc := 430) (n := 2) C dL_law_430 dL_law_431 dL_law_433 dL_law_434 dL_law_435 (.tail _ (.tail _ (.tail _ (.head _)))) hi (by omega) ?_
  refine lt_sld (pc := 436) (n := 3) C dL_law_436 dL_law_437 dL_law_439 dL_law_440 dL_law_441 (.tail _ (.tail _ (.tail _ (.head _)))) hi (by omega) ?_
  refine lt_less (kc' := 0 + kc) (ks' := 0 + ks) (by omega) (by omega) ?_
  refine lt_callV (kc := kc) (ks := ks) (mc := 0) (ms := 0) (ci := 7) (a := pm) (as := [.inl (xs (j + 1)), .inl (xs (j + 2)), .inl (xs (j + 3))]) (st := []) (pc := 442) C dL_law_442 lkL_83 imX7_inject seX7_inject rfl e9 rfl (by decide) (by decide) (Nat.le_of_ble_eq_true rfl) (g_X7_injectE hN2 hN8 c0' c1' hw' pm tm' (xs (j + 1)) (xs (j + 2)) (xs (j + 3)) i1') (fun rv2 h2 q2 => ?_)
  obtain ⟨w2, f2, j1, t, x8, rfl, thr, hm⟩ := q2
  obtain ⟨ht, LI2, ho⟩ := inj_end LI Q1 w2 f2 j1 (i2_fr f2 rfl rfl i2') hm
  show LT p l e s m below meth c b D _ _ 445 _ [.inl x8] _
  refine lt_istore (pc := 445) C dL_law_445 (by decide) (by decide) ?_
  refine lt_loc (lcI px pm ko i) (by simp [tSt, lcI]) ?_
  refine lt_goto (pc := 447) (tgt := 720) C dL_law_447 (by decide) ?_
  exact kk _ _ _ LI2
set_option maxHeartbeats 2000000 in
theorem lw_c7 (C : LC p l s m meth c b L xs) (hl0 : l.stackTraces = false) (hN2 : 2 ≤ N) (hN8 : N ≤ 8) (LI : LIq N pk τ h px pm ko) {i : Int32} {j : Nat} (hi : i.toInt = j) (hj : j + 5 ≤ L) (kk : ∀ (pk' : Int) (τ' : List Nat) (h' : List tC), LIq N pk' τ' h' px pm ko → LT p l e s m below meth c b D kc ks 720 (lcI px pm ko i) [] h') : LT p l e s m below meth c b D (3 + kc) (14 + ks) 450 (lcI px pm ko i) [] h := by
  obtain ⟨⟨c0, c1, hw, tx, tm, tk, ⟨y0, ek⟩, i1, i2, dis, same⟩, su, sa, sp⟩ := id LI
  refine lt_less (kc' := 0 + kc) (ks' := 0 + ks) (by omega) (by omega) ?_
  refine lt_aload_n (pc := 450) C dL_law_450 (.head _) ?_
  refine lt_sld (pc := 451) (n := 1) C dL_law_451 dL_law_452 dL_law_454 dL_law_455 dL_law_456 (.tail _ (.tail _ (.tail _ (.head _)))) hi (by omega) ?_
  refine lt_sld (pc := 457) (n := 2) C dL_law_457 dL_law_458 dL_law_460 dL_law_461 dL_law_462 (.tail _ (.tail _ (.tail _ (.head _)))) hi (by omega) ?_
  obtain ⟨fs8, e8, -⟩ := wt_obj hw tx (by decide)
  refine lt_callV (kc := kc) (ks := ks) (mc := 0) (ms := 0) (ci := 6) (a := px) (as := [.inl (xs (j + 1)), .inl (xs (j + 2))]) (st := []) (pc := 463) C dL_law_463 lkL_84 imX6_packet seX6_packet rfl e8 rfl (by decide) (by decide) (Nat.le_of_ble_eq_true rfl) (g_X6_packet hN2 hN8 c0 c1 hw px tx (xs (j + 1)) (xs (j + 2))) (fun rv h1 q1 => ?_)
  obtain ⟨rfl, x9, rfl, -⟩ := q1
  show LT p l e s m below meth c b D _ _ 466 _ [.inl x9] _
  refine lt_pop (pc := 466) C dL_law_466 ?_
  have LI1 := LI; have c0' := c0; have c1' := c1; have hw' := hw; have tm' := tm; have i1' := i1; have i2' := i2
  obtain ⟨fs9, e9, -⟩ := wt_obj hw' tm' (by decide)
  refine lt_aload_n (pc := 467) C dL_law_467 (.tail _ (.head _)) ?_
  refine lt_sld (pc := 468) (n := 1) C dL_law_468 dL_law_469 dL_law_471 dL_law_472 dL_law_473 (.tail _ (.tail _ (.tail _ (.head _)))) hi (by omega) ?_
  refine lt_sld (pc := 474) (n := 2) C dL_law_474 dL_law_475 dL_law_477 dL_law_478 dL_law_479 (.tail _ (.tail _ (.tail _ (.head _)))) hi (by omega) ?_
  refine lt_less (kc' := 0 + kc) (ks' := 0 + ks) (by omega) (by omega) ?_
  refine lt_callV (kc := kc) (ks := ks) (mc := 0) (ms := 0) (ci := 7) (a := pm) (as := [.inl (xs (j + 1)), .inl (xs (j + 2))]) (st := []) (pc := 480) C dL_law_480 lkL_87 imX7_packet seX7_packet rfl e9 rfl (by decide) (by decide) (Nat.le_of_ble_eq_true rfl) (g_X7_packet hN2 hN8 c0' c1' hw' pm tm' (xs (j + 1)) (xs (j + 2))) (fun rv2 h2 q2 => ?_)
  obtain ⟨w2, f2, x8, rfl, -⟩ := q2
  have LI2 := lq_m LI1 w2 f2 rfl rfl rfl rfl rfl rfl (fun j => rfl) rfl rfl rfl (i1_fr f2 rfl rfl rfl rfl i1') (i2_fr f2 rfl rfl i2')
  show LT p l e s m below meth c b D _ _ 483 _ [.inl x8] _
  refine lt_pop (pc := 483) C dL_law_483 ?_
  refine lt_goto (pc := 484) (tgt := 720) C dL_law_484 (by decide) ?_
  exact kk _ _ _ LI2
set_option maxHeartbeats 2000000 in
theorem lw_c8 (C : LC p l s m meth c b L xs) (hl0 : l.stackTraces = false) (hN2 : 2 ≤ N) (hN8 : N ≤ 8) (LI : LIq N pk τ h px pm ko) {i : Int32} {j : Nat} (hi : i.toInt = j) (hj : j + 5 ≤ L) (kk : ∀ (pk' : Int) (τ' : List Nat) (h' : List tC), LIq N pk' τ' h' px pm ko → LT p l e s m below meth c b D kc ks 720 (lcI px pm ko i) [] h') : LT p l e s m below meth c b D (3 + kc) (14 + ks) 487 (lcI px pm ko i) [] h := by
  obtain ⟨⟨c0, c1, hw, tx, tm, tk, ⟨y0, ek⟩, i1, i2, dis, same⟩, su, sa, sp⟩ := id LI
  refine lt_less (kc' := 0 + kc) (ks' := 0 + ks) (by omega) (by omega) ?_
  refine lt_aload_n (pc := 487) C dL_law_487 (.head _) ?_
  refine lt_sld (pc := 488) (n := 1) C dL_law_488 dL_law_489 dL_law_491 dL_law_492 dL_law_493 (.tail _ (.tail _ (.tail _ (.head _)))) hi (by omega) ?_
  refine lt_sld (pc := 494) (n := 2) C dL_law_494 dL_law_495 dL_law_497 dL_law_498 dL_law_499 (.tail _ (.tail _ (.tail _ (.head _)))) hi (by omega) ?_
  refine lt_sld (pc := 500) (n := 3) C dL_law_500 dL_law_501 dL_law_503 dL_law_504 dL_law_505 (.tail _ (.tail _ (.tail _ (.head _)))) hi (by omega) ?_
  obtain ⟨fs8, e8, -⟩ := wt_obj hw tx (by decide)
  refine lt_callV (kc := kc) (ks := ks) (mc := 0) (ms := 0) (ci := 6) (a := px) (as := [.inl (xs (j + 1)), .inl (xs (j + 2)), .inl (xs (j + 3))]) (st := []) (pc := 506) C dL_law_506 lkL_88 imX6_queue seX6_queue rfl e8 rfl (by decide) (by decide) (Nat.le_of_ble_eq_true rfl) (g_X6_queue hN2 hN8 c0 c1 hw px tx (xs (j + 1)) (xs (j + 2)) (xs (j + 3))) (fun rv h1 q1 => ?_)
  obtain ⟨rfl, x9, rfl, -⟩ := q1
  show LT p l e s m below meth c b D _ _ 509 _ [.inl x9] _
  refine lt_pop (pc := 509) C dL_law_509 ?_
  have LI1 := LI; have c0' := c0; have c1' := c1; have hw' := hw; have tm' := tm; have i1' := i1; have i2' := i2
  obtain ⟨fs9, e9, -⟩ := wt_obj hw' tm' (by decide)
  refine lt_aload_n (pc := 510) C dL_law_510 (.tail _ (.head _)) ?_
  refine lt_sld (pc := 511) (n := 1) C dL_law_511 dL_law_512 dL_law_514 dL_law_515 dL_law_516 (.tail _ (.tail _ (.tail _ (.head _)))) hi (by omega) ?_
  refine lt_sld (pc := 517) (n := 2) C dL_law_517 dL_law_518 dL_law_520 dL_law_521 dL_law_522 (.tail _ (.tail _ (.tail _ (.head _)))) hi (by omega) ?_
  refine lt_sld (pc := 523) (n := 3) C dL_law_523 dL_law_524 dL_law_526 dL_law_527 dL_law_528 (.tail _ (.tail _ (.tail _ (.head _)))) hi (by omega) ?_
  refine lt_less (kc' := 0 + kc) (ks' := 0 + ks) (by omega) (by omega) ?_
  refine lt_callV (kc := kc) (ks := ks) (mc := 0) (ms := 0) (ci := 7) (a := pm) (as := [.inl (xs (j + 1)), .inl (xs (j + 2)), .inl (xs (j + 3))]) (st := []) (pc := 529) C dL_law_529 lkL_91 imX7_queue seX7_queue rfl e9 rfl (by decide) (by decide) (Nat.le_of_ble_eq_true rfl) (g_X7_queue hN2 hN8 c0' c1' hw' pm tm' (xs (j + 1)) (xs (j + 2)) (xs (j + 3))) (fun rv2 h2 q2 => ?_)
  obtain ⟨w2, f2, x8, rfl, -⟩ := q2
  have LI2 := lq_m LI1 w2 f2 rfl rfl rfl rfl rfl rfl (fun j => rfl) rfl rfl rfl (i1_fr f2 rfl rfl rfl rfl i1') (i2_fr f2 rfl rfl i2')
  show LT p l e s m below meth c b D _ _ 532 _ [.inl x8] _
  refine lt_pop (pc := 532) C dL_law_532 ?_
  refine lt_goto (pc := 533) (tgt := 720) C dL_law_533 (by decide) ?_
  exact kk _ _ _ LI2
set_option maxHeartbeats 2000000 in
theorem lw_c9 (C : LC p l s m meth c b L xs) (hl0 : l.stackTraces = false) (hN2 : 2 ≤ N) (hN8 : N ≤ 8) (LI : LIq N pk τ h px pm ko) {i : Int32} {j : Nat} (hi : i.toInt = j) (hj : j + 5 ≤ L) (kk : ∀ (pk' : Int) (τ' : List Nat) (h' : List tC), LIq N pk' τ' h' px pm ko → LT p l e s m below meth c b D kc ks 720 (lcI px pm ko i) [] h') : LT p l e s m below meth c b D (3 + kc) (14 + ks) 536 (lcI px pm ko i) [] h := by
  obtain ⟨⟨c0, c1, hw, tx, tm, tk, ⟨y0, ek⟩, i1, i2, dis, same⟩, su, sa, sp⟩ := id LI
  refine lt_less (kc' := 0 + kc) (ks' := 0 + ks) (by omega) (by omega) ?_
  refine lt_aload_n (pc := 536) C dL_law_536 (.head _) ?_
  refine lt_sld (pc := 537) (n := 1) C dL_law_537 dL_law_538 dL_law_540 dL_law_541 dL_law_542 (.tail _ (.tail _ (.tail _ (.head _)))) hi (by omega) ?_
  refine lt_sld (pc := 543) (n := 2) C dL_law_543 dL_law_544 dL_law_546 dL_law_547 dL_law_548 (.tail _ (.tail _ (.tail _ (.head _)))) hi (by omega) ?_
  obtain ⟨fs8, e8, -⟩ := wt_obj hw tx (by decide)
  refine lt_callV (kc := kc) (ks := ks) (mc := 0) (ms := 0) (ci := 6) (a := px) (as := [.inl (xs (j + 1)), .inl (xs (j + 2))]) (st := []) (pc := 549) C dL_law_549 lkL_92 imX6_knows seX6_knows rfl e8 rfl (by decide) (by decide) (Nat.le_of_ble_eq_true rfl) (g_X6_knows hN2 hN8 c0 c1 hw px tx (xs (j + 1)) (xs (j + 2))) (fun rv h1 q1 => ?_)
  obtain ⟨rfl, x9, rfl, -⟩ := q1
  show LT p l e s m below meth c b D _ _ 552 _ [.inl x9] _
  refine lt_pop (pc := 552) C dL_law_552 ?_
  have LI1 := LI; have c0' := c0; have c1' := c1; have hw' := hw; have tm' := tm; have i1' := i1; have i2' := i2
  obtain ⟨fs9, e9, -⟩ := wt_obj hw' tm' (by decide)
  refine lt_aload_n (pc := 553) C dL_law_553 (.tail _ (.head _)) ?_
  refine lt_sld (pc := 554) (n := 1) C dL_law_554 dL_law_555 dL_law_557 dL_law_558 dL_law_559 (.tail _ (.tail _ (.tail _ (.head _)))) hi (by omega) ?_
  refine lt_sld (pc := 560) (n := 2) C dL_law_560 dL_law_561 dL_law_563 dL_law_564 dL_law_565 (.tail _ (.tail _ (.tail _ (.head _)))) hi (by omega) ?_
  refine lt_less (kc' := 0 + kc) (ks' := 0 + ks) (by omega) (by omega) ?_
  refine lt_callV (kc := kc) (ks := ks) (mc := 0) (ms := 0) (ci := 7) (a := pm) (as := [.inl (xs (j + 1)), .inl (xs (j + 2))]) (st := []) (pc := 566) C dL_law_566 lkL_95 imX7_knows seX7_knows rfl e9 rfl (by decide) (by decide) (Nat.le_of_ble_eq_true rfl) (g_X7_knows hN2 hN8 c0' c1' hw' pm tm' (xs (j + 1)) (xs (j + 2))) (fun rv2 h2 q2 => ?_)
  obtain ⟨w2, f2, x8, rfl, -⟩ := q2
  have LI2 := lq_m LI1 w2 f2 rfl rfl rfl rfl rfl rfl (fun j => rfl) rfl rfl rfl (i1_fr f2 rfl rfl rfl rfl i1') (i2_fr f2 rfl rfl i2')
  show LT p l e s m below meth c b D _ _ 569 _ [.inl x8] _
  refine lt_pop (pc := 569) C dL_law_569 ?_
  refine lt_goto (pc := 570) (tgt := 720) C dL_law_570 (by decide) ?_
  exact kk _ _ _ LI2
set_option maxHeartbeats 2000000 in
theorem lw_c10 (C : LC p l s m meth c b L xs) (hl0 : l.stackTraces = false) (hN2 : 2 ≤ N) (hN8 : N ≤ 8) (LI : LIq N pk τ h px pm ko) {i : Int32} {j : Nat} (hi : i.toInt = j) (hj : j + 5 ≤ L) (kk : ∀ (pk' : Int) (τ' : List Nat) (h' : List tC), LIq N pk' τ' h' px pm ko → LT p l e s m below meth c b D kc ks 720 (lcI px pm ko i) [] h') : LT p l e s m below meth c b D (3 + kc) (14 + ks) 573 (lcI px pm ko i) [] h := by
  obtain ⟨⟨c0, c1, hw, tx, tm, tk, ⟨y0, ek⟩, i1, i2, dis, same⟩, su, sa, sp⟩ := id LI
  refine lt_less (kc' := 0 + kc) (ks' := 0 + ks) (by omega) (by omega) ?_
  refine lt_aload_n (pc := 573) C dL_law_573 (.head _) ?_
  refine lt_sld (pc := 574) (n := 1) C dL_law_574 dL_law_575 dL_law_577 dL_law_578 dL_law_579 (.tail _ (.tail _ (.tail _ (.head _)))) hi (by omega) ?_
  refine lt_sld (pc := 580) (n := 2) C dL_law_580 dL_law_581 dL_law_583 dL_law_584 dL_law_585 (.tail _ (.tail _ (.tail _ (.head _)))) hi (by omega) ?_
  refine lt_sld (pc := 586) (n := 3) C dL_law_586 dL_law_587 dL_law_589 dL_law_590 dL_law_591 (.tail _ (.tail _ (.tail _ (.head _)))) hi (by omega) ?_
  obtain ⟨fs8, e8, -⟩ := wt_obj hw tx (by decide)
  refine lt_callV (kc := kc) (ks := ks) (mc := 0) (ms := 0) (ci := 6) (a := px) (as := [.inl (xs (j + 1)), .inl (xs (j + 2)), .inl (xs (j + 3))]) (st := []) (pc := 592) C dL_law_592 lkL_96 imX6_way seX6_way rfl e8 rfl (by decide) (by decide) (Nat.le_of_ble_eq_true rfl) (g_X6_way hN2 hN8 c0 c1 hw px tx (xs (j + 1)) (xs (j + 2)) (xs (j + 3))) (fun rv h1 q1 => ?_)
  obtain ⟨rfl, x9, rfl, -⟩ := q1
  show LT p l e s m below meth c b D _ _ 595 _ [.inl x9] _
  refine lt_pop (pc := 595) C dL_law_595 ?_
  have LI1 := LI; have c0' := c0; have c1' := c1; have hw' := hw; have tm' := tm; have i1' := i1; have i2' := i2
  obtain ⟨fs9, e9, -⟩ := wt_obj hw' tm' (by decide)
  refine lt_aload_n (pc := 596) C dL_law_596 (.tail _ (.head _)) ?_
  refine lt_sld (pc := 597) (n := 1) C dL_law_597 dL_law_598 dL_law_600 dL_law_601 dL_law_602 (.tail _ (.tail _ (.tail _ (.head _)))) hi (by omega) ?_
  refine lt_sld (pc := 603) (n := 2) C dL_law_603 dL_law_604 dL_law_606 dL_law_607 dL_law_608 (.tail _ (.tail _ (.tail _ (.head _)))) hi (by omega) ?_
  refine lt_sld (pc := 609) (n := 3) C dL_law_609 dL_law_610 dL_law_612 dL_law_613 dL_law_614 (.tail _ (.tail _ (.tail _ (.head _)))) hi (by omega) ?_
  refine lt_less (kc' := 0 + kc) (ks' := 0 + ks) (by omega) (by omega) ?_
  refine lt_callV (kc := kc) (ks := ks) (mc := 0) (ms := 0) (ci := 7) (a := pm) (as := [.inl (xs (j + 1)), .inl (xs (j + 2)), .inl (xs (j + 3))]) (st := []) (pc := 615) C dL_law_615 lkL_99 imX7_way seX7_way rfl e9 rfl (by decide) (by decide) (Nat.le_of_ble_eq_true rfl) (g_X7_way hN2 hN8 c0' c1' hw' pm tm' (xs (j + 1)) (xs (j + 2)) (xs (j + 3))) (fun rv2 h2 q2 => ?_)
  obtain ⟨w2, f2, x8, rfl, -⟩ := q2
  have LI2 := lq_m LI1 w2 f2 rfl rfl rfl rfl rfl rfl (fun j => rfl) rfl rfl rfl (i1_fr f2 rfl rfl rfl rfl i1') (i2_fr f2 rfl rfl i2')
  show LT p l e s m below meth c b D _ _ 618 _ [.inl x8] _
  refine lt_pop (pc := 618) C dL_law_618 ?_
  refine lt_goto (pc := 619) (tgt := 720) C dL_law_619 (by decide) ?_
  exact kk _ _ _ LI2
set_option maxHeartbeats 2000000 in
theorem lw_c11 (C : LC p l s m meth c b L xs) (hl0 : l.stackTraces = false) (hN2 : 2 ≤ N) (hN8 : N ≤ 8) (LI : LIq N pk τ h px pm ko) {i : Int32} {j : Nat} (hi : i.toInt = j) (hj : j + 5 ≤ L) (kk : ∀ (pk' : Int) (τ' : List Nat) (h' : List tC), LIq N pk' τ' h' px pm ko → LT p l e s m below meth c b D kc ks 720 (lcI px pm ko i) [] h') : LT p l e s m below meth c b D (3 + kc) (14 + ks) 622 (lcI px pm ko i) [] h := by
  obtain ⟨⟨c0, c1, hw, tx, tm, tk, ⟨y0, ek⟩, i1, i2, dis, same⟩, su, sa, sp⟩ := id LI
  refine lt_less (kc' := 0 + kc) (ks' := 0 + ks) (by omega) (by omega) ?_
  refine lt_aload_n (pc := 622) C dL_law_622 (.head _) ?_
  refine lt_sld (pc := 623) (n := 1) C dL_law_623 dL_law_624 dL_law_626 dL_law_627 dL_law_628 (.tail _ (.tail _ (.tail _ (.head _)))) hi (by omega) ?_
  refine lt_sld (pc := 629) (n := 2) C dL_law_629 dL_law_630 dL_law_632 dL_law_633 dL_law_634 (.tail _ (.tail _ (.tail _ (.head _)))) hi (by omega) ?_
  refine lt_sld (pc := 635) (n := 3) C dL_law_635 dL_law_636 dL_law_638 dL_law_639 dL_law_640 (.tail _ (.tail _ (.tail _ (.head _)))) hi (by omega) ?_
  refine lt_sld (pc := 641) (n := 4) C dL_law_641 dL_law_642 dL_law_644 dL_law_645 dL_law_646 (.tail _ (.tail _ (.tail _ (.head _)))) hi (by omega) ?_
  obtain ⟨fs8, e8, -⟩ := wt_obj hw tx (by decide)
  refine lt_callV (kc := kc) (ks := ks) (mc := 0) (ms := 0) (ci := 6) (a := px) (as := [.inl (xs (j + 1)), .inl (xs (j + 2)), .inl (xs (j + 3)), .inl (xs (j + 4))]) (st := []) (pc := 647) C dL_law_647 lkL_100 imX6_label seX6_label rfl e8 rfl (by decide) (by decide) (Nat.le_of_ble_eq_true rfl) (g_X6_label hN2 hN8 c0 c1 hw px tx (xs (j + 1)) (xs (j + 2)) (xs (j + 3)) (xs (j + 4))) (fun rv h1 q1 => ?_)
  obtain ⟨rfl, x9, rfl, -⟩ := q1
  show LT p l e s m below meth c b D _ _ 650 _ [.inl x9] _
  refine lt_pop (pc := 650) C dL_law_650 ?_
  have LI1 := LI; have c0' := c0; have c1' := c1; have hw' := hw; have tm' := tm; have i1' := i1; have i2' := i2
  obtain ⟨fs9, e9, -⟩ := wt_obj hw' tm' (by decide)
  refine lt_aload_n (pc := 651) C dL_law_651 (.tail _ (.head _)) ?_
  refine lt_sld (pc := 652) (n := 1) C dL_law_652 dL_law_653 dL_law_655 dL_law_656 dL_law_657 (.tail _ (.tail _ (.tail _ (.head _)))) hi (by omega) ?_
  refine lt_sld (pc := 658) (n := 2) C dL_law_658 dL_law_659 dL_law_661 dL_law_662 dL_law_663 (.tail _ (.tail _ (.tail _ (.head _)))) hi (by omega) ?_
  refine lt_sld (pc := 664) (n := 3) C dL_law_664 dL_law_665 dL_law_667 dL_law_668 dL_law_669 (.tail _ (.tail _ (.tail _ (.head _)))) hi (by omega) ?_
  refine lt_sld (pc := 670) (n := 4) C dL_law_670 dL_law_671 dL_law_673 dL_law_674 dL_law_675 (.tail _ (.tail _ (.tail _ (.head _)))) hi (by omega) ?_
  refine lt_less (kc' := 0 + kc) (ks' := 0 + ks) (by omega) (by omega) ?_
  refine lt_callV (kc := kc) (ks := ks) (mc := 0) (ms := 0) (ci := 7) (a := pm) (as := [.inl (xs (j + 1)), .inl (xs (j + 2)), .inl (xs (j + 3)), .inl (xs (j + 4))]) (st := []) (pc := 676) C dL_law_676 lkL_104 imX7_label seX7_label rfl e9 rfl (by decide) (by decide) (Nat.le_of_ble_eq_true rfl) (g_X7_label hN2 hN8 c0' c1' hw' pm tm' (xs (j + 1)) (xs (j + 2)) (xs (j + 3)) (xs (j + 4))) (fun rv2 h2 q2 => ?_)
  obtain ⟨w2, f2, x8, rfl, -⟩ := q2
  have LI2 := lq_m LI1 w2 f2 rfl rfl rfl rfl rfl rfl (fun j => rfl) rfl rfl rfl (i1_fr f2 rfl rfl rfl rfl i1') (i2_fr f2 rfl rfl i2')
  show LT p l e s m below meth c b D _ _ 679 _ [.inl x8] _
  refine lt_pop (pc := 679) C dL_law_679 ?_
  refine lt_goto (pc := 680) (tgt := 720) C dL_law_680 (by decide) ?_
  exact kk _ _ _ LI2
set_option maxHeartbeats 2000000 in
theorem lw_c12 (C : LC p l s m meth c b L xs) (hl0 : l.stackTraces = false) (hN2 : 2 ≤ N) (hN8 : N ≤ 8) (LI : LIq N pk τ h px pm ko) {i : Int32} {j : Nat} (hi : i.toInt = j) (hj : j + 5 ≤ L) (kk : ∀ (pk' : Int) (τ' : List Nat) (h' : List tC), LIq N pk' τ' h' px pm ko → LT p l e s m below meth c b D kc ks 720 (lcI px pm ko i) [] h') : LT p l e s m below meth c b D (3 + kc) (14 + ks) 683 (lcI px pm ko i) [] h := by
  obtain ⟨⟨c0, c1, hw, tx, tm, tk, ⟨y0, ek⟩, i1, i2, dis, same⟩, su, sa, sp⟩ := id LI
  refine lt_less (kc' := 0 + kc) (ks' := 0 + ks) (by omega) (by omega) ?_
  refine lt_aload_n (pc := 683) C dL_law_683 (.head _) ?_
  refine lt_sld (pc := 684) (n := 1) C dL_law_684 dL_law_685 dL_law_687 dL_law_688 dL_law_689 (.tail _ (.tail _ (.tail _ (.head _)))) hi (by omega) ?_
  refine lt_sld (pc := 690) (n := 2) C dL_law_690 dL_law_691 dL_law_693 dL_law_694 dL_law_695 (.tail _ (.tail _ (.tail _ (.head _)))) hi (by omega) ?_
  obtain ⟨fs8, e8, -⟩ := wt_obj hw tx (by decide)
  refine lt_callV (kc := kc) (ks := ks) (mc := 0) (ms := 0) (ci := 6) (a := px) (as := [.inl (xs (j + 1)), .inl (xs (j + 2))]) (st := []) (pc := 696) C dL_law_696 lkL_105 imX6_count seX6_count rfl e8 rfl (by decide) (by decide) (Nat.le_of_ble_eq_true rfl) (g_X6_count hN2 hN8 c0 c1 hw px tx (xs (j + 1)) (xs (j + 2))) (fun rv h1 q1 => ?_)
  obtain ⟨rfl, x9, rfl, -⟩ := q1
  show LT p l e s m below meth c b D _ _ 699 _ [.inl x9] _
  refine lt_pop (pc := 699) C dL_law_699 ?_
  have LI1 := LI; have c0' := c0; have c1' := c1; have hw' := hw; have tm' := tm; have i1' := i1; have i2' := i2
  obtain ⟨fs9, e9, -⟩ := wt_obj hw' tm' (by decide)
  refine lt_aload_n (pc := 700) C dL_law_700 (.tail _ (.head _)) ?_
  refine lt_sld (pc := 701) (n := 1) C dL_law_701 dL_law_702 dL_law_704 dL_law_705 dL_law_706 (.tail _ (.tail _ (.tail _ (.head _)))) hi (by omega) ?_
  refine lt_sld (pc := 707) (n := 2) C dL_law_707 dL_law_708 dL_law_710 dL_law_711 dL_law_712 (.tail _ (.tail _ (.tail _ (.head _)))) hi (by omega) ?_
  refine lt_less (kc' := 0 + kc) (ks' := 0 + ks) (by omega) (by omega) ?_
  refine lt_callV (kc := kc) (ks := ks) (mc := 0) (ms := 0) (ci := 7) (a := pm) (as := [.inl (xs (j + 1)), .inl (xs (j + 2))]) (st := []) (pc := 713) C dL_law_713 lkL_108 imX7_count seX7_count rfl e9 rfl (by decide) (by decide) (Nat.le_of_ble_eq_true rfl) (g_X7_count hN2 hN8 c0' c1' hw' pm tm' (xs (j + 1)) (xs (j + 2))) (fun rv2 h2 q2 => ?_)
  obtain ⟨w2, f2, x8, rfl, -⟩ := q2
  have LI2 := lq_m LI1 w2 f2 rfl rfl rfl rfl rfl rfl (fun j => rfl) rfl rfl rfl (i1_fr f2 rfl rfl rfl rfl i1') (i2_fr f2 rfl rfl i2')
  show LT p l e s m below meth c b D _ _ 716 _ [.inl x8] _
  refine lt_pop (pc := 716) C dL_law_716 ?_
  refine lt_goto (pc := 717) (tgt := 720) C dL_law_717 (by decide) ?_
  exact kk _ _ _ LI2
set_option maxHeartbeats 2000000 in
theorem lw_loop (C : LC p l s m meth c b L xs) (hl0 : l.stackTraces = false) (hN2 : 2 ≤ N) (hN8 : N ≤ 8) : ∀ (n : Nat) (i : Int32) (j : Nat) (pk : Int) (τ : List Nat) (h : List tC), L ≤ j + 5 * n → j ≤ 2600 → i.toInt = j → LIq N pk τ h px pm ko → LT p l e s m below meth c b D (3 * n) (14 * n) 33 (lcI px pm ko i) [] h := by
  intro n
  induction n with
  | zero =>
    intro i j pk τ h hn hj hi LI
    exact lt_head C (.tail _ (.tail _ (.tail _ (.head _)))) hi (by omega) (fun _ => lt_end C) (fun z => by omega)
  | succ n ih =>
    intro i j pk τ h hn hj hi LI
    have hL := C.2.2.2.2.2.2.2
    refine lt_head C (.tail _ (.tail _ (.tail _ (.head _)))) hi (by omega) (fun _ => lt_end C) (fun z => ?_)
    refine lt_less (kc' := 3 + 3 * n) (ks' := 14 + 14 * n) (by omega) (by omega) ?_
    have K : ∀ (pk' : Int) (τ' : List Nat) (h' : List tC), LIq N pk' τ' h' px pm ko → LT p l e s m below meth c b D (3 * n) (14 * n) 720 (lcI px pm ko i) [] h' := by
      intro pk' τ' h' LI'
      refine lt_iinc (pc := 720) C dL_law_720 (.tail _ (.tail _ (.tail _ (.head _)))) (by decide) (by decide) ?_
      refine lt_goto (pc := 723) (tgt := 33) C dL_law_723 (by decide) ?_
      refine lt_loc (lcI px pm ko (i + Int32.ofInt 5)) (by simp [tSt, lcI]) ?_
      have e5 : (Int32.ofInt 5).toInt = 5 := by decide
      exact ih (i + Int32.ofInt 5) (j + 5) pk' τ' h' (by omega) (by omega) (by rw [i_add (by omega)]; omega) LI'
    refine lt_switch C (.tail _ (.tail _ (.tail _ (.head _)))) hi z (fun t ht => ?_)
    simp only [List.mem_cons, List.not_mem_nil, or_false] at ht
    rcases ht with rfl | rfl | rfl | rfl | rfl | rfl | rfl | rfl | rfl | rfl | rfl | rfl | rfl | rfl
    · exact lw_c0 C hl0 hN2 hN8 LI hi z K
    · exact lw_c1 C hl0 hN2 hN8 LI hi z K
    · exact lw_c2 C hl0 hN2 hN8 LI hi z K
    · exact lw_c3 C hl0 hN2 hN8 LI hi z K
    · exact lw_c4 C hl0 hN2 hN8 LI hi z K
    · exact lw_c5 C hl0 hN2 hN8 LI hi z K
    · exact lw_c6 C hl0 hN2 hN8 LI hi z K
    · exact lw_c7 C hl0 hN2 hN8 LI hi z K
    · exact lw_c8 C hl0 hN2 hN8 LI hi z K
    · exact lw_c9 C hl0 hN2 hN8 LI hi z K
    · exact lw_c10 C hl0 hN2 hN8 LI hi z K
    · exact lw_c11 C hl0 hN2 hN8 LI hi z K
    · exact lw_c12 C hl0 hN2 hN8 LI hi z K
    · exact lt_less (by omega) (by omega) (K _ _ _ LI)
end LCS
