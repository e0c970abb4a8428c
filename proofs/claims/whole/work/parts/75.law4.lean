/-! the law: roads of the switch -/
section LC
variable {p : Program} {l : Launch} {e : Env} {s : State} {m : MethodId} {args : Array Value} {below : List Frame} {meth : Method} {c : Code} {D : va_G} {ad : Nat → Nat → Nat} {A : Nat → Prop} {Q : State → Prop} {cells slots : Nat} {ca : Nat → ClassId} {b L : Nat} {xs : Nat → Int32}
theorem tl_setDuty (hB : MB p s m args meth c cL_law RL 7 D ca SR A) {i K N t mo code : Nat} {v r : Int32} {T : Mem} (hq : OKR code v t mo r T) (hK : cells ≤ K ∧ K ≤ 601024) (hN : slots ≤ N ∧ N ≤ 7293034) (kk : KX p l e s m args below meth c D ad A Q ca b i t mo K N) : G p l e room_1 s m args below meth c D ad A 7 Q cells slots CNT (SH ad ca T) 203 [(0, .ref b), (1, .ref (ad 0 0)), (2, .ref (ad 17 0)), (3, .ref (ad 19 0)), (4, .int (nI i)), (5, .int (nI code))] [.int r] := by
  refine g_istore hB 6 dL_law_203 (by decide) ?_
  refine g_aload_n hB 2 dL_law_205 rfl rfl ?_
  refine g_callVI hB (c_X6_thrown _) k_L_114 rfl yk_X6_thrown ⟨Nat.le_of_ble_eq_true rfl, Nat.le_of_ble_eq_true rfl⟩ ⟨(by decide), _, _, _, rfl, rfl, rfl⟩ rfl (Nat.le_of_ble_eq_true rfl) ⟨by show cells + 0 ≤ 601024; omega, by show slots + 0 ≤ 7293034; omega⟩ dL_law_206 ?_
  rintro _ _ ⟨rfl, rfl⟩
  obtain ⟨q1, q2, q3, ng', nm', nc', t', pa', rk', mo', q4, q5, q6⟩ := hq
  refine g_top (nI code) q1 ?_
  refine g_iload hB 5 dL_law_209 rfl ?_
  refine g_icmp_eq hB 216 dL_law_211 (by decide) (fun _ => ?_) (fun z => absurd rfl z)
  refine g_iload hB 5 dL_law_216 rfl ?_
  by_cases hc : code = 0
  · refine g_top (nI 0) (by rw [hc]) ?_
    refine g_if_ne hB 233 dL_law_218 (by decide) (fun z => absurd rfl z) (fun _ => ?_)
    refine g_aload_n hB 3 dL_law_221 rfl rfl ?_
    refine g_iconst hB (nI 0) dL_law_222 rfl ?_
    refine g_laldE hB 19 0 0 (n := 1) (f := fun j => (T 19 0 j).toInt64) (by decide) rfl (by decide) (by decide) dL_law_223 ?_
    refine g_iload hB 6 dL_law_224 rfl ?_
    refine g_i2l hB dL_law_226 ?_
    refine g_lcmp hB dL_law_227 ?_
    refine g_top 0 (by show lg_cmp (T 19 0 0).toInt64 r.toInt64 = 0; rw [(q3 hc).2, (q3 hc).1]; exact lg_cmp_self) ?_
    refine g_if_eq hB 233 dL_law_228 (by decide) (fun _ => ?_) (fun z => absurd rfl z)
    refine g_goto hB 1923 dL_law_233 (by decide) ?_
    refine g_widen (k := K) (n := N) (by show _ + 0 ≤ K; omega) (by show _ + 0 ≤ N; omega) ?_
    exact g_sub [(0, .ref b), (1, .ref (ad 0 0)), (2, .ref (ad 17 0)), (3, .ref (ad 19 0)), (4, .int (nI i))] rfl (kk _ _ _ _ _ _ _ _ q4 q5 q6)
  · refine g_if_ne hB 233 dL_law_218 (by decide) (fun _ => ?_) (fun z => absurd z (fun w9 => hc ((nI_eq (a := code) (b := 0) (by omega) (by decide)).mp w9)))
    refine g_goto hB 1923 dL_law_233 (by decide) ?_
    refine g_widen (k := K) (n := N) (by show _ + 0 ≤ K; omega) (by show _ + 0 ≤ N; omega) ?_
    exact g_sub [(0, .ref b), (1, .ref (ad 0 0)), (2, .ref (ad 17 0)), (3, .ref (ad 19 0)), (4, .int (nI i))] rfl (kk _ _ _ _ _ _ _ _ q4 q5 q6)
theorem law_setDuty (hB : MB p s m args meth c cL_law RL 7 D ca SR A) (hX : va_X b L xs s s.heap) (hbl : b < s.heap.size) (hbA : ¬ A b) (hL : L ≤ 2560) (hl : l.stackTraces = false) {i K N ng nm nc t pa rk mo : Nat} {S : Mem} (h : INV S ng nm nc t pa rk mo) (hi : i + 5 ≤ L) (ht60 : t + 60 < 2 ^ 20) (hmo : mo + 1 < 2 ^ 20) (hK : cells + 4 ≤ K ∧ K ≤ 601024) (hN : slots + 24 ≤ N ∧ N ≤ 7293034) (kk : KX p l e s m args below meth c D ad A Q ca b i t mo K N) : G p l e room_1 s m args below meth c D ad A 7 Q cells slots CNT (SH ad ca S) 168 [(0, .ref b), (1, .ref (ad 0 0)), (2, .ref (ad 17 0)), (3, .ref (ad 19 0)), (4, .int (nI i))] [] := by
  refine g_aload_n hB 1 dL_law_168 rfl rfl ?_
  refine g_aload_n hB 0 dL_law_169 rfl rfl ?_
  refine g_iload hB 4 dL_law_170 rfl ?_
  refine g_iconst hB (nI 1) dL_law_172 rfl ?_
  refine g_iadd hB dL_law_173 ?_
  refine g_top (nI (i + 1)) (nI_add _ _) ?_
  refine g_sld hB hX hbl hbA (i + 1) (by omega) (by omega) dL_law_174 ?_
  refine g_aload_n hB 0 dL_law_175 rfl rfl ?_
  refine g_iload hB 4 dL_law_176 rfl ?_
  refine g_iconst hB (nI 2) dL_law_178 rfl ?_
  refine g_iadd hB dL_law_179 ?_
  refine g_top (nI (i + 2)) (nI_add _ _) ?_
  refine g_sld hB hX hbl hbA (i + 2) (by omega) (by omega) dL_law_180 ?_
  refine g_aload_n hB 3 dL_law_181 rfl rfl ?_
  refine g_callHSI hB (c_L_setDuty hl S (xs (i + 1)) (xs (i + 2))) k_L_108 yk_L_setDuty ⟨Nat.le_of_ble_eq_true rfl, Nat.le_of_ble_eq_true rfl⟩ rfl (Nat.le_of_ble_eq_true rfl) ⟨by show cells + 1 ≤ 601024; omega, by show slots + 6 ≤ 7293034; omega⟩ dL_law_182 ?_
  rintro _ _ ⟨rfl, rfl⟩
  refine g_istore hB 5 dL_law_185 (by decide) ?_
  have hR : RI (TT S (sdC (xs (i + 1)) (xs (i + 2))) (uM (uM S 1 0 (ix (xs (i + 1))) (xs (i + 2))) 19 0 0 (S 1 0 (ix (xs (i + 1)))))) ng nm nc t pa := TT_RI h (uM_hi (by decide) (by decide)) (uM_hi (by decide) (by decide))
  obtain ⟨⟨hg, hng0, hng⟩, ⟨hm, hnm⟩, ⟨hc, hnc⟩, ⟨ht1, htb⟩, ⟨hpa, hpab⟩, hpar, hgr, hTK, htk⟩ := id hR
  refine g_aload_n hB 2 dL_law_187 rfl rfl ?_
  refine g_aload_n hB 0 dL_law_188 rfl rfl ?_
  refine g_iload hB 4 dL_law_189 rfl ?_
  refine g_iconst hB (nI 1) dL_law_191 rfl ?_
  refine g_iadd hB dL_law_192 ?_
  refine g_top (nI (i + 1)) (nI_add _ _) ?_
  refine g_sld hB hX hbl hbA (i + 1) (by omega) (by omega) dL_law_193 ?_
  refine g_aload_n hB 0 dL_law_194 rfl rfl ?_
  refine g_iload hB 4 dL_law_195 rfl ?_
  refine g_iconst hB (nI 2) dL_law_197 rfl ?_
  refine g_iadd hB dL_law_198 ?_
  refine g_top (nI (i + 2)) (nI_add _ _) ?_
  refine g_sld hB hX hbl hbA (i + 2) (by omega) (by omega) dL_law_199 ?_
  refine g_callVI hB (c_X6_setDuty _ (xs (i + 1)) (xs (i + 2))) k_L_113 rfl yk_X6_setDuty ⟨Nat.le_of_ble_eq_true rfl, Nat.le_of_ble_eq_true rfl⟩ ⟨(by decide), _, _, _, rfl, rfl, rfl⟩ rfl (Nat.le_of_ble_eq_true rfl) ⟨by show cells + 1 + 0 ≤ 601024; omega, by show slots + 6 + 0 ≤ 7293034; omega⟩ dL_law_200 ?_
  rintro _ _ ⟨rfl, rfl⟩
  exact g_sub [(0, .ref b), (1, .ref (ad 0 0)), (2, .ref (ad 17 0)), (3, .ref (ad 19 0)), (4, .int (nI i)), (5, .int (nI (sdC (xs (i + 1)) (xs (i + 2)))))] rfl (tl_setDuty hB (okr (step_setDuty h (xs (i + 1)) (xs (i + 2))) sdC3 rSetDuty9) ⟨by show cells + 1 + 0 ≤ K; omega, hK.2⟩ ⟨by show slots + 6 + 0 ≤ N; omega, hN.2⟩ kk)
theorem tl_leave (hB : MB p s m args meth c cL_law RL 7 D ca SR A) {i K N t mo code : Nat} {v r : Int32} {T : Mem} (hq : OKR code v t mo r T) (hK : cells ≤ K ∧ K ≤ 601024) (hN : slots ≤ N ∧ N ≤ 7293034) (kk : KX p l e s m args below meth c D ad A Q ca b i t mo K N) : G p l e room_1 s m args below meth c D ad A 7 Q cells slots CNT (SH ad ca T) 287 [(0, .ref b), (1, .ref (ad 0 0)), (2, .ref (ad 17 0)), (3, .ref (ad 19 0)), (4, .int (nI i)), (5, .int (nI code))] [.int r] := by
  refine g_istore hB 6 dL_law_287 (by decide) ?_
  refine g_aload_n hB 2 dL_law_289 rfl rfl ?_
  refine g_callVI hB (c_X6_thrown _) k_L_114 rfl yk_X6_thrown ⟨Nat.le_of_ble_eq_true rfl, Nat.le_of_ble_eq_true rfl⟩ ⟨(by decide), _, _, _, rfl, rfl, rfl⟩ rfl (Nat.le_of_ble_eq_true rfl) ⟨by show cells + 0 ≤ 601024; omega, by show slots + 0 ≤ 7293034; omega⟩ dL_law_290 ?_
  rintro _ _ ⟨rfl, rfl⟩
  obtain ⟨q1, q2, q3, ng', nm', nc', t', pa', rk', mo', q4, q5, q6⟩ := hq
  refine g_top (nI code) q1 ?_
  refine g_iload hB 5 dL_law_293 rfl ?_
  refine g_icmp_eq hB 300 dL_law_295 (by decide) (fun _ => ?_) (fun z => absurd rfl z)
  refine g_iload hB 5 dL_law_300 rfl ?_
  by_cases hc : code = 0
  · refine g_top (nI 0) (by rw [hc]) ?_
    refine g_if_ne hB 317 dL_law_302 (by decide) (fun z => absurd rfl z) (fun _ => ?_)
    refine g_aload_n hB 3 dL_law_305 rfl rfl ?_
    refine g_iconst hB (nI 0) dL_law_306 rfl ?_
    refine g_laldE hB 19 0 0 (n := 1) (f := fun j => (T 19 0 j).toInt64) (by decide) rfl (by decide) (by decide) dL_law_307 ?_
    refine g_iload hB 6 dL_law_308 rfl ?_
    refine g_i2l hB dL_law_310 ?_
    refine g_lcmp hB dL_law_311 ?_
    refine g_top 0 (by show lg_cmp (T 19 0 0).toInt64 r.toInt64 = 0; rw [(q3 hc).2, (q3 hc).1]; exact lg_cmp_self) ?_
    refine g_if_eq hB 317 dL_law_312 (by decide) (fun _ => ?_) (fun z => absurd rfl z)
    refine g_goto hB 1923 dL_law_317 (by decide) ?_
    refine g_widen (k := K) (n := N) (by show _ + 0 ≤ K; omega) (by show _ + 0 ≤ N; omega) ?_
    exact g_sub [(0, .ref b), (1, .ref (ad 0 0)), (2, .ref (ad 17 0)), (3, .ref (ad 19 0)), (4, .int (nI i))] rfl (kk _ _ _ _ _ _ _ _ q4 q5 q6)
  · refine g_if_ne hB 317 dL_law_302 (by decide) (fun _ => ?_) (fun z => absurd z (fun w9 => hc ((nI_eq (a := code) (b := 0) (by omega) (by decide)).mp w9)))
    refine g_goto hB 1923 dL_law_317 (by decide) ?_
    refine g_widen (k := K) (n := N) (by show _ + 0 ≤ K; omega) (by show _ + 0 ≤ N; omega) ?_
    exact g_sub [(0, .ref b), (1, .ref (ad 0 0)), (2, .ref (ad 17 0)), (3, .ref (ad 19 0)), (4, .int (nI i))] rfl (kk _ _ _ _ _ _ _ _ q4 q5 q6)
theorem law_leave (hB : MB p s m args meth c cL_law RL 7 D ca SR A) (hX : va_X b L xs s s.heap) (hbl : b < s.heap.size) (hbA : ¬ A b) (hL : L ≤ 2560) (hl : l.stackTraces = false) {i K N ng nm nc t pa rk mo : Nat} {S : Mem} (h : INV S ng nm nc t pa rk mo) (hi : i + 5 ≤ L) (ht60 : t + 60 < 2 ^ 20) (hmo : mo + 1 < 2 ^ 20) (hK : cells + 4 ≤ K ∧ K ≤ 601024) (hN : slots + 24 ≤ N ∧ N ≤ 7293034) (kk : KX p l e s m args below meth c D ad A Q ca b i t mo K N) : G p l e room_1 s m args below meth c D ad A 7 Q cells slots CNT (SH ad ca S) 236 [(0, .ref b), (1, .ref (ad 0 0)), (2, .ref (ad 17 0)), (3, .ref (ad 19 0)), (4, .int (nI i))] [] := by
  by_cases hb : xs (i + 2) = 0
  · refine g_aload_n hB 1 dL_law_236 rfl rfl ?_
    refine g_aload_n hB 0 dL_law_237 rfl rfl ?_
    refine g_iload hB 4 dL_law_238 rfl ?_
    refine g_iconst hB (nI 1) dL_law_240 rfl ?_
    refine g_iadd hB dL_law_241 ?_
    refine g_top (nI (i + 1)) (nI_add _ _) ?_
    refine g_sld hB hX hbl hbA (i + 1) (by omega) (by omega) dL_law_242 ?_
    refine g_aload_n hB 0 dL_law_243 rfl rfl ?_
    refine g_iload hB 4 dL_law_244 rfl ?_
    refine g_iconst hB (nI 2) dL_law_246 rfl ?_
    refine g_iadd hB dL_law_247 ?_
    refine g_top (nI (i + 2)) (nI_add _ _) ?_
    refine g_sld hB hX hbl hbA (i + 2) (by omega) (by omega) dL_law_248 ?_
    refine g_if_eq hB 256 dL_law_249 (by decide) (fun _ => ?_) (fun z => absurd hb z)
    refine g_iconst hB (nI 0) dL_law_256 rfl ?_
    refine g_top (bI false) rfl ?_
    refine g_aload_n hB 3 dL_law_257 rfl rfl ?_
    refine g_callHSI hB (c_L_leave hl S ng nm nc t pa h.1 (xs (i + 1)) false) k_L_118 yk_L_leave ⟨Nat.le_of_ble_eq_true rfl, Nat.le_of_ble_eq_true rfl⟩ rfl (Nat.le_of_ble_eq_true rfl) ⟨by show cells + 2 ≤ 601024; omega, by show slots + 12 ≤ 7293034; omega⟩ dL_law_258 ?_
    rintro _ _ ⟨rfl, rfl⟩
    refine g_istore hB 5 dL_law_261 (by decide) ?_
    have hR : RI (TT S (leC S (xs (i + 1))) (uM (leM S (ix (xs (i + 1))) nc nm false) 19 0 0 (leV S (ix (xs (i + 1))) nc false))) ng nm nc t pa := TT_RI h (leM_hi (by decide)) (leM_hi (by decide))
    obtain ⟨⟨hg, hng0, hng⟩, ⟨hm, hnm⟩, ⟨hc, hnc⟩, ⟨ht1, htb⟩, ⟨hpa, hpab⟩, hpar, hgr, hTK, htk⟩ := id hR
    refine g_aload_n hB 2 dL_law_263 rfl rfl ?_
    refine g_aload_n hB 0 dL_law_264 rfl rfl ?_
    refine g_iload hB 4 dL_law_265 rfl ?_
    refine g_iconst hB (nI 1) dL_law_267 rfl ?_
    refine g_iadd hB dL_law_268 ?_
    refine g_top (nI (i + 1)) (nI_add _ _) ?_
    refine g_sld hB hX hbl hbA (i + 1) (by omega) (by omega) dL_law_269 ?_
    refine g_aload_n hB 0 dL_law_270 rfl rfl ?_
    refine g_iload hB 4 dL_law_271 rfl ?_
    refine g_iconst hB (nI 2) dL_law_273 rfl ?_
    refine g_iadd hB dL_law_274 ?_
    refine g_top (nI (i + 2)) (nI_add _ _) ?_
    refine g_sld hB hX hbl hbA (i + 2) (by omega) (by omega) dL_law_275 ?_
    refine g_if_eq hB 283 dL_law_276 (by decide) (fun _ => ?_) (fun z => absurd hb z)
    refine g_iconst hB (nI 0) dL_law_283 rfl ?_
    refine g_top (bI false) rfl ?_
    refine g_callVI hB (c_X6_leave _ (xs (i + 1)) false nm nc hm hnm hc hnc hTK) k_L_121 rfl yk_X6_leave ⟨Nat.le_of_ble_eq_true rfl, Nat.le_of_ble_eq_true rfl⟩ ⟨(by decide), _, _, _, rfl, rfl, rfl⟩ rfl (Nat.le_of_ble_eq_true rfl) ⟨by show cells + 2 + 0 ≤ 601024; omega, by show slots + 12 + 0 ≤ 7293034; omega⟩ dL_law_284 ?_
    rintro _ _ ⟨rfl, rfl⟩
    exact g_sub [(0, .ref b), (1, .ref (ad 0 0)), (2, .ref (ad 17 0)), (3, .ref (ad 19 0)), (4, .int (nI i)), (5, .int (nI (leC S (xs (i + 1)))))] rfl (tl_leave hB (okr (step_leave h hmo (xs (i + 1)) false) leC3 rLeave9) ⟨by show cells + 2 + 0 ≤ K; omega, hK.2⟩ ⟨by show slots + 12 + 0 ≤ N; omega, hN.2⟩ kk)
  · refine g_aload_n hB 1 dL_law_236 rfl rfl ?_
    refine g_aload_n hB 0 dL_law_237 rfl rfl ?_
    refine g_iload hB 4 dL_law_238 rfl ?_
    refine g_iconst hB (nI 1) dL_law_240 rfl ?_
    refine g_iadd hB dL_law_241 ?_
    refine g_top (nI (i + 1)) (nI_add _ _) ?_
    refine g_sld hB hX hbl hbA (i + 1) (by omega) (by omega) dL_law_242 ?_
    refine g_aload_n hB 0 dL_law_243 rfl rfl ?_
    refine g_iload hB 4 dL_law_244 rfl ?_
    refine g_iconst hB (nI 2) dL_law_246 rfl ?_
    refine g_iadd hB dL_law_247 ?_
    refine g_top (nI (i + 2)) (nI_add _ _) ?_
    refine g_sld hB hX hbl hbA (i + 2) (by omega) (by omega) dL_law_248 ?_
    refine g_if_eq hB 256 dL_law_249 (by decide) (fun z => absurd z hb) (fun _ => ?_)
    refine g_iconst hB (nI 1) dL_law_252 rfl ?_
    refine g_top (bI true) rfl ?_
    refine g_goto hB 257 dL_law_253 (by decide) ?_
    refine g_aload_n hB 3 dL_law_257 rfl rfl ?_
    refine g_callHSI hB (c_L_leave hl S ng nm nc t pa h.1 (xs (i + 1)) true) k_L_118 yk_L_leave ⟨Nat.le_of_ble_eq_true rfl, Nat.le_of_ble_eq_true rfl⟩ rfl (Nat.le_of_ble_eq_true rfl) ⟨by show cells + 2 ≤ 601024; omega, by show slots + 12 ≤ 7293034; omega⟩ dL_law_258 ?_
    rintro _ _ ⟨rfl, rfl⟩
    refine g_istore hB 5 dL_law_261 (by decide) ?_
    have hR : RI (TT S (leC S (xs (i + 1))) (uM (leM S (ix (xs (i + 1))) nc nm true) 19 0 0 (leV S (ix (xs (i + 1))) nc true))) ng nm nc t pa := TT_RI h (leM_hi (by decide)) (leM_hi (by decide))
    obtain ⟨⟨hg, hng0, hng⟩, ⟨hm, hnm⟩, ⟨hc, hnc⟩, ⟨ht1, htb⟩, ⟨hpa, hpab⟩, hpar, hgr, hTK, htk⟩ := id hR
    refine g_aload_n hB 2 dL_law_263 rfl rfl ?_
    refine g_aload_n hB 0 dL_law_264 rfl rfl ?_
    refine g_iload hB 4 dL_law_265 rfl ?_
    refine g_iconst hB (nI 1) dL_law_267 rfl ?_
    refine g_iadd hB dL_law_268 ?_
    refine g_top (nI (i + 1)) (nI_add _ _) ?_
    refine g_sld hB hX hbl hbA (i + 1) (by omega) (by omega) dL_law_269 ?_
    refine g_aload_n hB 0 dL_law_270 rfl rfl ?_
    refine g_iload hB 4 dL_law_271 rfl ?_
    refine g_iconst hB (nI 2) dL_law_273 rfl ?_
    refine g_iadd hB dL_law_274 ?_
    refine g_top (nI (i + 2)) (nI_add _ _) ?_
    refine g_sld hB hX hbl hbA (i + 2) (by omega) (by omega) dL_law_275 ?_
    refine g_if_eq hB 283 dL_law_276 (by decide) (fun z => absurd z hb) (fun _ => ?_)
    refine g_iconst hB (nI 1) dL_law_279 rfl ?_
    refine g_top (bI true) rfl ?_
    refine g_goto hB 284 dL_law_280 (by decide) ?_
    refine g_callVI hB (c_X6_leave _ (xs (i + 1)) true nm nc hm hnm hc hnc hTK) k_L_121 rfl yk_X6_leave ⟨Nat.le_of_ble_eq_true rfl, Nat.le_of_ble_eq_true rfl⟩ ⟨(by decide), _, _, _, rfl, rfl, rfl⟩ rfl (Nat.le_of_ble_eq_true rfl) ⟨by show cells + 2 + 0 ≤ 601024; omega, by show slots + 12 + 0 ≤ 7293034; omega⟩ dL_law_284 ?_
    rintro _ _ ⟨rfl, rfl⟩
    exact g_sub [(0, .ref b), (1, .ref (ad 0 0)), (2, .ref (ad 17 0)), (3, .ref (ad 19 0)), (4, .int (nI i)), (5, .int (nI (leC S (xs (i + 1)))))] rfl (tl_leave hB (okr (step_leave h hmo (xs (i + 1)) true) leC3 rLeave9) ⟨by show cells + 2 + 0 ≤ K; omega, hK.2⟩ ⟨by show slots + 12 + 0 ≤ N; omega, hN.2⟩ kk)
theorem tl_comeBack (hB : MB p s m args meth c cL_law RL 7 D ca SR A) {i K N t mo code : Nat} {T : Mem} (hq : T 17 0 0 = nI code ∧ ∃ ng' nm' nc' t' pa' rk' mo', INV T ng' nm' nc' t' pa' rk' mo' ∧ t' ≤ t + 60 ∧ mo' ≤ mo + 1) (hK : cells ≤ K ∧ K ≤ 601024) (hN : slots ≤ N ∧ N ≤ 7293034) (kk : KX p l e s m args below meth c D ad A Q ca b i t mo K N) : G p l e room_1 s m args below meth c D ad A 7 Q cells slots CNT (SH ad ca T) 342 [(0, .ref b), (1, .ref (ad 0 0)), (2, .ref (ad 17 0)), (3, .ref (ad 19 0)), (4, .int (nI i)), (5, .int (nI code))] [] := by
  refine g_aload_n hB 2 dL_law_342 rfl rfl ?_
  refine g_callVI hB (c_X6_thrown _) k_L_114 rfl yk_X6_thrown ⟨Nat.le_of_ble_eq_true rfl, Nat.le_of_ble_eq_true rfl⟩ ⟨(by decide), _, _, _, rfl, rfl, rfl⟩ rfl (Nat.le_of_ble_eq_true rfl) ⟨by show cells + 0 ≤ 601024; omega, by show slots + 0 ≤ 7293034; omega⟩ dL_law_343 ?_
  rintro _ _ ⟨rfl, rfl⟩
  obtain ⟨q1, ng', nm', nc', t', pa', rk', mo', q4, q5, q6⟩ := hq
  refine g_top (nI code) q1 ?_
  refine g_iload hB 5 dL_law_346 rfl ?_
  refine g_icmp_eq hB 353 dL_law_348 (by decide) (fun _ => ?_) (fun z => absurd rfl z)
  refine g_goto hB 1923 dL_law_353 (by decide) ?_
  refine g_widen (k := K) (n := N) (by show _ + 0 ≤ K; omega) (by show _ + 0 ≤ N; omega) ?_
  exact g_sub [(0, .ref b), (1, .ref (ad 0 0)), (2, .ref (ad 17 0)), (3, .ref (ad 19 0)), (4, .int (nI i))] rfl (kk _ _ _ _ _ _ _ _ q4 q5 q6)
theorem law_comeBack (hB : MB p s m args meth c cL_law RL 7 D ca SR A) (hX : va_X b L xs s s.heap) (hbl : b < s.heap.size) (hbA : ¬ A b) (hL : L ≤ 2560) (hl : l.stackTraces = false) {i K N ng nm nc t pa rk mo : Nat} {S : Mem} (h : INV S ng nm nc t pa rk mo) (hi : i + 5 ≤ L) (ht60 : t + 60 < 2 ^ 20) (hmo : mo + 1 < 2 ^ 20) (hK : cells + 4 ≤ K ∧ K ≤ 601024) (hN : slots + 24 ≤ N ∧ N ≤ 7293034) (kk : KX p l e s m args below meth c D ad A Q ca b i t mo K N) : G p l e room_1 s m args below meth c D ad A 7 Q cells slots CNT (SH ad ca S) 320 [(0, .ref b), (1, .ref (ad 0 0)), (2, .ref (ad 17 0)), (3, .ref (ad 19 0)), (4, .int (nI i))] [] := by
  refine g_aload_n hB 1 dL_law_320 rfl rfl ?_
  refine g_aload_n hB 0 dL_law_321 rfl rfl ?_
  refine g_iload hB 4 dL_law_322 rfl ?_
  refine g_iconst hB (nI 1) dL_law_324 rfl ?_
  refine g_iadd hB dL_law_325 ?_
  refine g_top (nI (i + 1)) (nI_add _ _) ?_
  refine g_sld hB hX hbl hbA (i + 1) (by omega) (by omega) dL_law_326 ?_
  refine g_callHSI hB (c_L_comeBack hl S (xs (i + 1))) k_L_122 yk_L_comeBack ⟨Nat.le_of_ble_eq_true rfl, Nat.le_of_ble_eq_true rfl⟩ rfl (Nat.le_of_ble_eq_true rfl) ⟨by show cells + 2 ≤ 601024; omega, by show slots + 12 ≤ 7293034; omega⟩ dL_law_327 ?_
  rintro _ _ ⟨rfl, rfl⟩
  refine g_istore hB 5 dL_law_330 (by decide) ?_
  have hR : RI (TT S (cbC S (xs (i + 1))) (uM S 5 (ix (xs (i + 1))) 0 (nI 1))) ng nm nc t pa := TT_RIv h (uM_hi (by decide) (by decide)) (uM_hi (by decide) (by decide))
  obtain ⟨⟨hg, hng0, hng⟩, ⟨hm, hnm⟩, ⟨hc, hnc⟩, ⟨ht1, htb⟩, ⟨hpa, hpab⟩, hpar, hgr, hTK, htk⟩ := id hR
  refine g_aload_n hB 2 dL_law_332 rfl rfl ?_
  refine g_aload_n hB 0 dL_law_333 rfl rfl ?_
  refine g_iload hB 4 dL_law_334 rfl ?_
  refine g_iconst hB (nI 1) dL_law_336 rfl ?_
  refine g_iadd hB dL_law_337 ?_
  refine g_top (nI (i + 1)) (nI_add _ _) ?_
  refine g_sld hB hX hbl hbA (i + 1) (by omega) (by omega) dL_law_338 ?_
  refine g_callVV hB (c_X6_comeBack _ (xs (i + 1))) k_L_125 rfl yk_X6_comeBack ⟨Nat.le_of_ble_eq_true rfl, Nat.le_of_ble_eq_true rfl⟩ ⟨(by decide), _, _, _, rfl, rfl, rfl⟩ rfl (Nat.le_of_ble_eq_true rfl) ⟨by show cells + 2 + 0 ≤ 601024; omega, by show slots + 12 + 0 ≤ 7293034; omega⟩ dL_law_339 ?_
  rintro _ rfl
  exact g_sub [(0, .ref b), (1, .ref (ad 0 0)), (2, .ref (ad 17 0)), (3, .ref (ad 19 0)), (4, .int (nI i)), (5, .int (nI (cbC S (xs (i + 1)))))] rfl (tl_comeBack hB (step_comeBack h (xs (i + 1))) ⟨by show cells + 2 + 0 ≤ K; omega, hK.2⟩ ⟨by show slots + 12 + 0 ≤ N; omega, hN.2⟩ kk)
theorem tl_pass (hB : MB p s m args meth c cL_law RL 7 D ca SR A) {i K N t mo code : Nat} {v r : Int32} {T : Mem} (hq : OKR code v t mo r T) (hK : cells ≤ K ∧ K ≤ 601024) (hN : slots ≤ N ∧ N ≤ 7293034) (kk : KX p l e s m args below meth c D ad A Q ca b i t mo K N) : G p l e room_1 s m args below meth c D ad A 7 Q cells slots CNT (SH ad ca T) 379 [(0, .ref b), (1, .ref (ad 0 0)), (2, .ref (ad 17 0)), (3, .ref (ad 19 0)), (4, .int (nI i)), (5, .int (nI code))] [.int r] := by
  refine g_istore hB 6 dL_law_379 (by decide) ?_
  refine g_aload_n hB 2 dL_law_381 rfl rfl ?_
  refine g_callVI hB (c_X6_thrown _) k_L_114 rfl yk_X6_thrown ⟨Nat.le_of_ble_eq_true rfl, Nat.le_of_ble_eq_true rfl⟩ ⟨(by decide), _, _, _, rfl, rfl, rfl⟩ rfl (Nat.le_of_ble_eq_true rfl) ⟨by show cells + 0 ≤ 601024; omega, by show slots + 0 ≤ 7293034; omega⟩ dL_law_382 ?_
  rintro _ _ ⟨rfl, rfl⟩
  obtain ⟨q1, q2, q3, ng', nm', nc', t', pa', rk', mo', q4, q5, q6⟩ := hq
  refine g_top (nI code) q1 ?_
  refine g_iload hB 5 dL_law_385 rfl ?_
  refine g_icmp_eq hB 392 dL_law_387 (by decide) (fun _ => ?_) (fun z => absurd rfl z)
  refine g_iload hB 5 dL_law_392 rfl ?_
  by_cases hc : code = 0
  · refine g_top (nI 0) (by rw [hc]) ?_
    refine g_if_ne hB 409 dL_law_394 (by decide) (fun z => absurd rfl z) (fun _ => ?_)
    refine g_aload_n hB 3 dL_law_397 rfl rfl ?_
    refine g_iconst hB (nI 0) dL_law_398 rfl ?_
    refine g_laldE hB 19 0 0 (n := 1) (f := fun j => (T 19 0 j).toInt64) (by decide) rfl (by decide) (by decide) dL_law_399 ?_
    refine g_iload hB 6 dL_law_400 rfl ?_
    refine g_i2l hB dL_law_402 ?_
    refine g_lcmp hB dL_law_403 ?_
    refine g_top 0 (by show lg_cmp (T 19 0 0).toInt64 r.toInt64 = 0; rw [(q3 hc).2, (q3 hc).1]; exact lg_cmp_self) ?_
    refine g_if_eq hB 409 dL_law_404 (by decide) (fun _ => ?_) (fun z => absurd rfl z)
    refine g_goto hB 1923 dL_law_409 (by decide) ?_
    refine g_widen (k := K) (n := N) (by show _ + 0 ≤ K; omega) (by show _ + 0 ≤ N; omega) ?_
    exact g_sub [(0, .ref b), (1, .ref (ad 0 0)), (2, .ref (ad 17 0)), (3, .ref (ad 19 0)), (4, .int (nI i))] rfl (kk _ _ _ _ _ _ _ _ q4 q5 q6)
  · refine g_if_ne hB 409 dL_law_394 (by decide) (fun _ => ?_) (fun z => absurd z (fun w9 => hc ((nI_eq (a := code) (b := 0) (by omega) (by decide)).mp w9)))
    refine g_goto hB 1923 dL_law_409 (by decide) ?_
    refine g_widen (k := K) (n := N) (by show _ + 0 ≤ K; omega) (by show _ + 0 ≤ N; omega) ?_
    exact g_sub [(0, .ref b), (1, .ref (ad 0 0)), (2, .ref (ad 17 0)), (3, .ref (ad 19 0)), (4, .int (nI i))] rfl (kk _ _ _ _ _ _ _ _ q4 q5 q6)
theorem law_pass (hB : MB p s m args meth c cL_law RL 7 D ca SR A) (hX : va_X b L xs s s.heap) (hbl : b < s.heap.size) (hbA : ¬ A b) (hL : L ≤ 2560) (hl : l.stackTraces = false) {i K N ng nm nc t pa rk mo : Nat} {S : Mem} (h : INV S ng nm nc t pa rk mo) (hi : i + 5 ≤ L) (ht60 : t + 60 < 2 ^ 20) (hmo : mo + 1 < 2 ^ 20) (hK : cells + 4 ≤ K ∧ K ≤ 601024) (hN : slots + 24 ≤ N ∧ N ≤ 7293034) (kk : KX p l e s m args below meth c D ad A Q ca b i t mo K N) : G p l e room_1 s m args below meth c D ad A 7 Q cells slots CNT (SH ad ca S) 356 [(0, .ref b), (1, .ref (ad 0 0)), (2, .ref (ad 17 0)), (3, .ref (ad 19 0)), (4, .int (nI i))] [] := by
  refine g_aload_n hB 1 dL_law_356 rfl rfl ?_
  refine g_aload_n hB 0 dL_law_357 rfl rfl ?_
  refine g_iload hB 4 dL_law_358 rfl ?_
  refine g_iconst hB (nI 1) dL_law_360 rfl ?_
  refine g_iadd hB dL_law_361 ?_
  refine g_top (nI (i + 1)) (nI_add _ _) ?_
  refine g_sld hB hX hbl hbA (i + 1) (by omega) (by omega) dL_law_362 ?_
  refine g_aload_n hB 3 dL_law_363 rfl rfl ?_
  refine g_callHSI hB (c_L_pass hl S ng nm nc t pa h.1 ht60 (xs (i + 1))) k_L_126 yk_L_pass ⟨Nat.le_of_ble_eq_true rfl, Nat.le_of_ble_eq_true rfl⟩ rfl (Nat.le_of_ble_eq_true rfl) ⟨by show cells + 1 ≤ 601024; omega, by show slots + 6 ≤ 7293034; omega⟩ dL_law_364 ?_
  rintro _ _ ⟨rfl, rfl⟩
  refine g_istore hB 5 dL_law_367 (by decide) ?_
  have hR : RI (TT S (paC (xs (i + 1))) (uM ((cPassN nc nm pa (ix (xs (i + 1))) (S, 0)).1) 19 0 0 (nI (cPassN nc nm pa (ix (xs (i + 1))) (S, 0)).2))) ng nm nc t pa := TT_RI h (cPass_hi (by decide) (by decide) _ _) (cPass_hi (by decide) (by decide) _ _)
  obtain ⟨⟨hg, hng0, hng⟩, ⟨hm, hnm⟩, ⟨hc, hnc⟩, ⟨ht1, htb⟩, ⟨hpa, hpab⟩, hpar, hgr, hTK, htk⟩ := id hR
  refine g_aload_n hB 2 dL_law_369 rfl rfl ?_
  refine g_aload_n hB 0 dL_law_370 rfl rfl ?_
  refine g_iload hB 4 dL_law_371 rfl ?_
  refine g_iconst hB (nI 1) dL_law_373 rfl ?_
  refine g_iadd hB dL_law_374 ?_
  refine g_top (nI (i + 1)) (nI_add _ _) ?_
  refine g_sld hB hX hbl hbA (i + 1) (by omega) (by omega) dL_law_375 ?_
  refine g_callVI hB (c_X6_pass _ (xs (i + 1)) ng nm nc t pa hR ht60) k_L_129 rfl yk_X6_pass ⟨Nat.le_of_ble_eq_true rfl, Nat.le_of_ble_eq_true rfl⟩ ⟨(by decide), _, _, _, rfl, rfl, rfl⟩ rfl (Nat.le_of_ble_eq_true rfl) ⟨by show cells + 1 + 0 ≤ 601024; omega, by show slots + 6 + 0 ≤ 7293034; omega⟩ dL_law_376 ?_
  rintro _ _ ⟨rfl, rfl⟩
  exact g_sub [(0, .ref b), (1, .ref (ad 0 0)), (2, .ref (ad 17 0)), (3, .ref (ad 19 0)), (4, .int (nI i)), (5, .int (nI (paC (xs (i + 1)))))] rfl (tl_pass hB (okr (step_pass h ht60 (xs (i + 1))) paC3 rPass9) ⟨by show cells + 1 + 0 ≤ K; omega, hK.2⟩ ⟨by show slots + 6 + 0 ≤ N; omega, hN.2⟩ kk)
theorem law_day (hB : MB p s m args meth c cL_law RL 7 D ca SR A) (hX : va_X b L xs s s.heap) (hbl : b < s.heap.size) (hbA : ¬ A b) (hL : L ≤ 2560) (hl : l.stackTraces = false) {i K N ng nm nc t pa rk mo : Nat} {S : Mem} (h : INV S ng nm nc t pa rk mo) (hi : i + 5 ≤ L) (ht60 : t + 60 < 2 ^ 20) (hmo : mo + 1 < 2 ^ 20) (hK : cells + 4 ≤ K ∧ K ≤ 601024) (hN : slots + 24 ≤ N ∧ N ≤ 7293034) (kk : KX p l e s m args below meth c D ad A Q ca b i t mo K N) : G p l e room_1 s m args below meth c D ad A 7 Q cells slots CNT (SH ad ca S) 412 [(0, .ref b), (1, .ref (ad 0 0)), (2, .ref (ad 17 0)), (3, .ref (ad 19 0)), (4, .int (nI i))] [] := by
  refine g_aload_n hB 1 dL_law_412 rfl rfl ?_
  refine g_callVI hB (c_X5_day S) k_L_130 rfl yk_X5_day ⟨Nat.le_of_ble_eq_true rfl, Nat.le_of_ble_eq_true rfl⟩ ⟨(by decide), _, _, _, rfl, rfl, rfl⟩ rfl (Nat.le_of_ble_eq_true rfl) ⟨by show cells + 0 ≤ 601024; omega, by show slots + 0 ≤ 7293034; omega⟩ dL_law_413 ?_
  rintro _ _ ⟨rfl, rfl⟩
  refine g_aload_n hB 2 dL_law_416 rfl rfl ?_
  refine g_callVI hB (c_X6_day S) k_L_133 rfl yk_X6_day ⟨Nat.le_of_ble_eq_true rfl, Nat.le_of_ble_eq_true rfl⟩ ⟨(by decide), _, _, _, rfl, rfl, rfl⟩ rfl (Nat.le_of_ble_eq_true rfl) ⟨by show cells + 0 + 0 ≤ 601024; omega, by show slots + 0 + 0 ≤ 7293034; omega⟩ dL_law_417 ?_
  rintro _ _ ⟨rfl, rfl⟩
  refine g_icmp_eq hB 1923 dL_law_420 (by decide) (fun _ => ?_) (fun z => absurd (h.1.2.2.2.1.1.trans h.2.1.2.2.2.1.1.symm) z)
  refine g_widen (k := K) (n := N) (by show cells + 0 + 0 ≤ K; omega) (by show slots + 0 + 0 ≤ N; omega) ?_
  exact g_sub [(0, .ref b), (1, .ref (ad 0 0)), (2, .ref (ad 17 0)), (3, .ref (ad 19 0)), (4, .int (nI i))] rfl (kk _ _ _ _ _ _ _ _ (INV_th h _) (by omega) (by omega))
theorem tl_addGroup (hB : MB p s m args meth c cL_law RL 7 D ca SR A) {i K N t mo code : Nat} {v r : Int32} {T : Mem} (hq : OKR code v t mo r T) (hK : cells ≤ K ∧ K ≤ 601024) (hN : slots ≤ N ∧ N ≤ 7293034) (kk : KX p l e s m args below meth c D ad A Q ca b i t mo K N) : G p l e room_1 s m args below meth c D ad A 7 Q cells slots CNT (SH ad ca T) 448 [(0, .ref b), (1, .ref (ad 0 0)), (2, .ref (ad 17 0)), (3, .ref (ad 19 0)), (4, .int (nI i)), (5, .int (nI code))] [.int r] := by
  refine g_istore hB 6 dL_law_448 (by decide) ?_
  refine g_aload_n hB 2 dL_law_450 rfl rfl ?_
  refine g_callVI hB (c_X6_thrown _) k_L_114 rfl yk_X6_thrown ⟨Nat.le_of_ble_eq_true rfl, Nat.le_of_ble_eq_true rfl⟩ ⟨(by decide), _, _, _, rfl, rfl, rfl⟩ rfl (Nat.le_of_ble_eq_true rfl) ⟨by show cells + 0 ≤ 601024; omega, by show slots + 0 ≤ 7293034; omega⟩ dL_law_451 ?_
  rintro _ _ ⟨rfl, rfl⟩
  obtain ⟨q1, q2, q3, ng', nm', nc', t', pa', rk', mo', q4, q5, q6⟩ := hq
  refine g_top (nI code) q1 ?_
  refine g_iload hB 5 dL_law_454 rfl ?_
  refine g_icmp_eq hB 461 dL_law_456 (by decide) (fun _ => ?_) (fun z => absurd rfl z)
  refine g_iload hB 5 dL_law_461 rfl ?_
  by_cases hc : code = 0
  · refine g_top (nI 0) (by rw [hc]) ?_
    refine g_if_ne hB 478 dL_law_463 (by decide) (fun z => absurd rfl z) (fun _ => ?_)
    refine g_aload_n hB 3 dL_law_466 rfl rfl ?_
    refine g_iconst hB (nI 0) dL_law_467 rfl ?_
    refine g_laldE hB 19 0 0 (n := 1) (f := fun j => (T 19 0 j).toInt64) (by decide) rfl (by decide) (by decide) dL_law_468 ?_
    refine g_iload hB 6 dL_law_469 rfl ?_
    refine g_i2l hB dL_law_471 ?_
    refine g_lcmp hB dL_law_472 ?_
    refine g_top 0 (by show lg_cmp (T 19 0 0).toInt64 r.toInt64 = 0; rw [(q3 hc).2, (q3 hc).1]; exact lg_cmp_self) ?_
    refine g_if_eq hB 478 dL_law_473 (by decide) (fun _ => ?_) (fun z => absurd rfl z)
    refine g_goto hB 1923 dL_law_478 (by decide) ?_
    refine g_widen (k := K) (n := N) (by show _ + 0 ≤ K; omega) (by show _ + 0 ≤ N; omega) ?_
    exact g_sub [(0, .ref b), (1, .ref (ad 0 0)), (2, .ref (ad 17 0)), (3, .ref (ad 19 0)), (4, .int (nI i))] rfl (kk _ _ _ _ _ _ _ _ q4 q5 q6)
  · refine g_if_ne hB 478 dL_law_463 (by decide) (fun _ => ?_) (fun z => absurd z (fun w9 => hc ((nI_eq (a := code) (b := 0) (by omega) (by decide)).mp w9)))
    refine g_goto hB 1923 dL_law_478 (by decide) ?_
    refine g_widen (k := K) (n := N) (by show _ + 0 ≤ K; omega) (by show _ + 0 ≤ N; omega) ?_
    exact g_sub [(0, .ref b), (1, .ref (ad 0 0)), (2, .ref (ad 17 0)), (3, .ref (ad 19 0)), (4, .int (nI i))] rfl (kk _ _ _ _ _ _ _ _ q4 q5 q6)
theorem law_addGroup (hB : MB p s m args meth c cL_law RL 7 D ca SR A) (hX : va_X b L xs s s.heap) (hbl : b < s.heap.size) (hbA : ¬ A b) (hL : L ≤ 2560) (hl : l.stackTraces = false) {i K N ng nm nc t pa rk mo : Nat} {S : Mem} (h : INV S ng nm nc t pa rk mo) (hi : i + 5 ≤ L) (ht60 : t + 60 < 2 ^ 20) (hmo : mo + 1 < 2 ^ 20) (hK : cells + 4 ≤ K ∧ K ≤ 601024) (hN : slots + 24 ≤ N ∧ N ≤ 7293034) (kk : KX p l e s m args below meth c D ad A Q ca b i t mo K N) : G p l e room_1 s m args below meth c D ad A 7 Q cells slots CNT (SH ad ca S) 425 [(0, .ref b), (1, .ref (ad 0 0)), (2, .ref (ad 17 0)), (3, .ref (ad 19 0)), (4, .int (nI i))] [] := by
  refine g_aload_n hB 1 dL_law_425 rfl rfl ?_
  refine g_aload_n hB 0 dL_law_426 rfl rfl ?_
  refine g_iload hB 4 dL_law_427 rfl ?_
  refine g_iconst hB (nI 1) dL_law_429 rfl ?_
  refine g_iadd hB dL_law_430 ?_
  refine g_top (nI (i + 1)) (nI_add _ _) ?_
  refine g_sld hB hX hbl hbA (i + 1) (by omega) (by omega) dL_law_431 ?_
  refine g_aload_n hB 3 dL_law_432 rfl rfl ?_
  refine g_callHSI hB (c_L_addGroup hl S ng nm nc t pa h.1 (xs (i + 1))) k_L_134 yk_L_addGroup ⟨Nat.le_of_ble_eq_true rfl, Nat.le_of_ble_eq_true rfl⟩ rfl (Nat.le_of_ble_eq_true rfl) ⟨by show cells + 2 ≤ 601024; omega, by show slots + 12 ≤ 7293034; omega⟩ dL_law_433 ?_
  rintro _ _ ⟨rfl, rfl⟩
  refine g_istore hB 5 dL_law_436 (by decide) ?_
  have hR : RI (TT S (agC (xs (i + 1)) ng) (uM (uM (uM S 1 1 ng (xs (i + 1))) 0 0 5 (nI (ng + 1))) 19 0 0 (nI ng))) ng nm nc t pa := TT_RI h ((uM_hi (by decide) (by decide)).trans (uM_hi (by decide) (by decide))) ((uM_hi (by decide) (by decide)).trans (uM_hi (by decide) (by decide)))
  obtain ⟨⟨hg, hng0, hng⟩, ⟨hm, hnm⟩, ⟨hc, hnc⟩, ⟨ht1, htb⟩, ⟨hpa, hpab⟩, hpar, hgr, hTK, htk⟩ := id hR
  refine g_aload_n hB 2 dL_law_438 rfl rfl ?_
  refine g_aload_n hB 0 dL_law_439 rfl rfl ?_
  refine g_iload hB 4 dL_law_440 rfl ?_
  refine g_iconst hB (nI 1) dL_law_442 rfl ?_
  refine g_iadd hB dL_law_443 ?_
  refine g_top (nI (i + 1)) (nI_add _ _) ?_
  refine g_sld hB hX hbl hbA (i + 1) (by omega) (by omega) dL_law_444 ?_
  refine g_callVI hB (c_X6_addGroup _ (xs (i + 1)) ng hg hng) k_L_136 rfl yk_X6_addGroup ⟨Nat.le_of_ble_eq_true rfl, Nat.le_of_ble_eq_true rfl⟩ ⟨(by decide), _, _, _, rfl, rfl, rfl⟩ rfl (Nat.le_of_ble_eq_true rfl) ⟨by show cells + 2 + 0 ≤ 601024; omega, by show slots + 12 + 0 ≤ 7293034; omega⟩ dL_law_445 ?_
  rintro _ _ ⟨rfl, rfl⟩
  exact g_sub [(0, .ref b), (1, .ref (ad 0 0)), (2, .ref (ad 17 0)), (3, .ref (ad 19 0)), (4, .int (nI i)), (5, .int (nI (agC (xs (i + 1)) ng)))] rfl (tl_addGroup hB (okr (step_addGroup h (xs (i + 1))) agC3 rAddGroup9) ⟨by show cells + 2 + 0 ≤ K; omega, hK.2⟩ ⟨by show slots + 12 + 0 ≤ N; omega, hN.2⟩ kk)
theorem tl_addMachine (hB : MB p s m args meth c cL_law RL 7 D ca SR A) {i K N t mo code : Nat} {v r : Int32} {T : Mem} (hq : OKR code v t mo r T) (hK : cells ≤ K ∧ K ≤ 601024) (hN : slots ≤ N ∧ N ≤ 7293034) (kk : KX p l e s m args below meth c D ad A Q ca b i t mo K N) : G p l e room_1 s m args below meth c D ad A 7 Q cells slots CNT (SH ad ca T) 504 [(0, .ref b), (1, .ref (ad 0 0)), (2, .ref (ad 17 0)), (3, .ref (ad 19 0)), (4, .int (nI i)), (5, .int (nI code))] [.int r] := by
  refine g_istore hB 6 dL_law_504 (by decide) ?_
  refine g_aload_n hB 2 dL_law_506 rfl rfl ?_
  refine g_callVI hB (c_X6_thrown _) k_L_114 rfl yk_X6_thrown ⟨Nat.le_of_ble_eq_true rfl, Nat.le_of_ble_eq_true rfl⟩ ⟨(by decide), _, _, _, rfl, rfl, rfl⟩ rfl (Nat.le_of_ble_eq_true rfl) ⟨by show cells + 0 ≤ 601024; omega, by show slots + 0 ≤ 7293034; omega⟩ dL_law_507 ?_
  rintro _ _ ⟨rfl, rfl⟩
  obtain ⟨q1, q2, q3, ng', nm', nc', t', pa', rk', mo', q4, q5, q6⟩ := hq
  refine g_top (nI code) q1 ?_
  refine g_iload hB 5 dL_law_510 rfl ?_
  refine g_icmp_eq hB 517 dL_law_512 (by decide) (fun _ => ?_) (fun z => absurd rfl z)
  refine g_iload hB 5 dL_law_517 rfl ?_
  by_cases hc : code = 0
  · refine g_top (nI 0) (by rw [hc]) ?_
    refine g_if_ne hB 534 dL_law_519 (by decide) (fun z => absurd rfl z) (fun _ => ?_)
    refine g_aload_n hB 3 dL_law_522 rfl rfl ?_
    refine g_iconst hB (nI 0) dL_law_523 rfl ?_
    refine g_laldE hB 19 0 0 (n := 1) (f := fun j => (T 19 0 j).toInt64) (by decide) rfl (by decide) (by decide) dL_law_524 ?_
    refine g_iload hB 6 dL_law_525 rfl ?_
    refine g_i2l hB dL_law_527 ?_
    refine g_lcmp hB dL_law_528 ?_
    refine g_top 0 (by show lg_cmp (T 19 0 0).toInt64 r.toInt64 = 0; rw [(q3 hc).2, (q3 hc).1]; exact lg_cmp_self) ?_
    refine g_if_eq hB 534 dL_law_529 (by decide) (fun _ => ?_) (fun z => absurd rfl z)
    refine g_goto hB 1923 dL_law_534 (by decide) ?_
    refine g_widen (k := K) (n := N) (by show _ + 0 ≤ K; omega) (by show _ + 0 ≤ N; omega) ?_
    exact g_sub [(0, .ref b), (1, .ref (ad 0 0)), (2, .ref (ad 17 0)), (3, .ref (ad 19 0)), (4, .int (nI i))] rfl (kk _ _ _ _ _ _ _ _ q4 q5 q6)
  · refine g_if_ne hB 534 dL_law_519 (by decide) (fun _ => ?_) (fun z => absurd z (fun w9 => hc ((nI_eq (a := code) (b := 0) (by omega) (by decide)).mp w9)))
    refine g_goto hB 1923 dL_law_534 (by decide) ?_
    refine g_widen (k := K) (n := N) (by show _ + 0 ≤ K; omega) (by show _ + 0 ≤ N; omega) ?_
    exact g_sub [(0, .ref b), (1, .ref (ad 0 0)), (2, .ref (ad 17 0)), (3, .ref (ad 19 0)), (4, .int (nI i))] rfl (kk _ _ _ _ _ _ _ _ q4 q5 q6)
theorem law_addMachine (hB : MB p s m args meth c cL_law RL 7 D ca SR A) (hX : va_X b L xs s s.heap) (hbl : b < s.heap.size) (hbA : ¬ A b) (hL : L ≤ 2560) (hl : l.stackTraces = false) {i K N ng nm nc t pa rk mo : Nat} {S : Mem} (h : INV S ng nm nc t pa rk mo) (hi : i + 5 ≤ L) (ht60 : t + 60 < 2 ^ 20) (hmo : mo + 1 < 2 ^ 20) (hK : cells + 4 ≤ K ∧ K ≤ 601024) (hN : slots + 24 ≤ N ∧ N ≤ 7293034) (kk : KX p l e s m args below meth c D ad A Q ca b i t mo K N) : G p l e room_1 s m args below meth c D ad A 7 Q cells slots CNT (SH ad ca S) 481 [(0, .ref b), (1, .ref (ad 0 0)), (2, .ref (ad 17 0)), (3, .ref (ad 19 0)), (4, .int (nI i))] [] := by
  refine g_aload_n hB 1 dL_law_481 rfl rfl ?_
  refine g_aload_n hB 0 dL_law_482 rfl rfl ?_
  refine g_iload hB 4 dL_law_483 rfl ?_
  refine g_iconst hB (nI 1) dL_law_485 rfl ?_
  refine g_iadd hB dL_law_486 ?_
  refine g_top (nI (i + 1)) (nI_add _ _) ?_
  refine g_sld hB hX hbl hbA (i + 1) (by omega) (by omega) dL_law_487 ?_
  refine g_aload_n hB 3 dL_law_488 rfl rfl ?_
  refine g_callHSI hB (c_L_addMachine hl S ng nm nc t pa h.1 (xs (i + 1))) k_L_137 yk_L_addMachine ⟨Nat.le_of_ble_eq_true rfl, Nat.le_of_ble_eq_true rfl⟩ rfl (Nat.le_of_ble_eq_true rfl) ⟨by show cells + 2 ≤ 601024; omega, by show slots + 12 ≤ 7293034; omega⟩ dL_law_489 ?_
  rintro _ _ ⟨rfl, rfl⟩
  refine g_istore hB 5 dL_law_492 (by decide) ?_
  have hR : RI (TT S (amC (xs (i + 1)) ng nm) (uM (amM S nm (ix (xs (i + 1)))) 19 0 0 (nI nm))) ng nm nc t pa := TT_RI h (amM_hi (by decide)) (amM_hi (by decide))
  obtain ⟨⟨hg, hng0, hng⟩, ⟨hm, hnm⟩, ⟨hc, hnc⟩, ⟨ht1, htb⟩, ⟨hpa, hpab⟩, hpar, hgr, hTK, htk⟩ := id hR
  refine g_aload_n hB 2 dL_law_494 rfl rfl ?_
  refine g_aload_n hB 0 dL_law_495 rfl rfl ?_
  refine g_iload hB 4 dL_law_496 rfl ?_
  refine g_iconst hB (nI 1) dL_law_498 rfl ?_
  refine g_iadd hB dL_law_499 ?_
  refine g_top (nI (i + 1)) (nI_add _ _) ?_
  refine g_sld hB hX hbl hbA (i + 1) (by omega) (by omega) dL_law_500 ?_
  refine g_callVI hB (c_X6_addMachine _ (xs (i + 1)) ng nm hg hng hm hnm) k_L_139 rfl yk_X6_addMachine ⟨Nat.le_of_ble_eq_true rfl, Nat.le_of_ble_eq_true rfl⟩ ⟨(by decide), _, _, _, rfl, rfl, rfl⟩ rfl (Nat.le_of_ble_eq_true rfl) ⟨by show cells + 2 + 0 ≤ 601024; omega, by show slots + 12 + 0 ≤ 7293034; omega⟩ dL_law_501 ?_
  rintro _ _ ⟨rfl, rfl⟩
  exact g_sub [(0, .ref b), (1, .ref (ad 0 0)), (2, .ref (ad 17 0)), (3, .ref (ad 19 0)), (4, .int (nI i)), (5, .int (nI (amC (xs (i + 1)) ng nm)))] rfl (tl_addMachine hB (okr (step_addMachine h (xs (i + 1))) amC3 rAddMachine9) ⟨by show cells + 2 + 0 ≤ K; omega, hK.2⟩ ⟨by show slots + 12 + 0 ≤ N; omega, hN.2⟩ kk)
theorem tl_moveMachine (hB : MB p s m args meth c cL_law RL 7 D ca SR A) {i K N t mo code : Nat} {v r : Int32} {T : Mem} (hq : OKR code v t mo r T) (hK : cells ≤ K ∧ K ≤ 601024) (hN : slots ≤ N ∧ N ≤ 7293034) (kk : KX p l e s m args below meth c D ad A Q ca b i t mo K N) : G p l e room_1 s m args below meth c D ad A 7 Q cells slots CNT (SH ad ca T) 572 [(0, .ref b), (1, .ref (ad 0 0)), (2, .ref (ad 17 0)), (3, .ref (ad 19 0)), (4, .int (nI i)), (5, .int (nI code))] [.int r] := by
  refine g_istore hB 6 dL_law_572 (by decide) ?_
  refine g_aload_n hB 2 dL_law_574 rfl rfl ?_
  refine g_callVI hB (c_X6_thrown _) k_L_114 rfl yk_X6_thrown ⟨Nat.le_of_ble_eq_true rfl, Nat.le_of_ble_eq_true rfl⟩ ⟨(by decide), _, _, _, rfl, rfl, rfl⟩ rfl (Nat.le_of_ble_eq_true rfl) ⟨by show cells + 0 ≤ 601024; omega, by show slots + 0 ≤ 7293034; omega⟩ dL_law_575 ?_
  rintro _ _ ⟨rfl, rfl⟩
  obtain ⟨q1, q2, q3, ng', nm', nc', t', pa', rk', mo', q4, q5, q6⟩ := hq
  refine g_top (nI code) q1 ?_
  refine g_iload hB 5 dL_law_578 rfl ?_
  refine g_icmp_eq hB 585 dL_law_580 (by decide) (fun _ => ?_) (fun z => absurd rfl z)
  refine g_iload hB 5 dL_law_585 rfl ?_
  by_cases hc : code = 0
  · refine g_top (nI 0) (by rw [hc]) ?_
    refine g_if_ne hB 602 dL_law_587 (by decide) (fun z => absurd rfl z) (fun _ => ?_)
    refine g_aload_n hB 3 dL_law_590 rfl rfl ?_
    refine g_iconst hB (nI 0) dL_law_591 rfl ?_
    refine g_laldE hB 19 0 0 (n := 1) (f := fun j => (T 19 0 j).toInt64) (by decide) rfl (by decide) (by decide) dL_law_592 ?_
    refine g_iload hB 6 dL_law_593 rfl ?_
    refine g_i2l hB dL_law_595 ?_
    refine g_lcmp hB dL_law_596 ?_
    refine g_top 0 (by show lg_cmp (T 19 0 0).toInt64 r.toInt64 = 0; rw [(q3 hc).2, (q3 hc).1]; exact lg_cmp_self) ?_
    refine g_if_eq hB 602 dL_law_597 (by decide) (fun _ => ?_) (fun z => absurd rfl z)
    refine g_goto hB 1923 dL_law_602 (by decide) ?_
    refine g_widen (k := K) (n := N) (by show _ + 0 ≤ K; omega) (by show _ + 0 ≤ N; omega) ?_
    exact g_sub [(0, .ref b), (1, .ref (ad 0 0)), (2, .ref (ad 17 0)), (3, .ref (ad 19 0)), (4, .int (nI i))] rfl (kk _ _ _ _ _ _ _ _ q4 q5 q6)
  · refine g_if_ne hB 602 dL_law_587 (by decide) (fun _ => ?_) (fun z => absurd z (fun w9 => hc ((nI_eq (a := code) (b := 0) (by omega) (by decide)).mp w9)))
    refine g_goto hB 1923 dL_law_602 (by decide) ?_
    refine g_widen (k := K) (n := N) (by show _ + 0 ≤ K; omega) (by show _ + 0 ≤ N; omega) ?_
    exact g_sub [(0, .ref b), (1, .ref (ad 0 0)), (2, .ref (ad 17 0)), (3, .ref (ad 19 0)), (4, .int (nI i))] rfl (kk _ _ _ _ _ _ _ _ q4 q5 q6)
theorem law_moveMachine (hB : MB p s m args meth c cL_law RL 7 D ca SR A) (hX : va_X b L xs s s.heap) (hbl : b < s.heap.size) (hbA : ¬ A b) (hL : L ≤ 2560) (hl : l.stackTraces = false) {i K N ng nm nc t pa rk mo : Nat} {S : Mem} (h : INV S ng nm nc t pa rk mo) (hi : i + 5 ≤ L) (ht60 : t + 60 < 2 ^ 20) (hmo : mo + 1 < 2 ^ 20) (hK : cells + 4 ≤ K ∧ K ≤ 601024) (hN : slots + 24 ≤ N ∧ N ≤ 7293034) (kk : KX p l e s m args below meth c D ad A Q ca b i t mo K N) : G p l e room_1 s m args below meth c D ad A 7 Q cells slots CNT (SH ad ca S) 537 [(0, .ref b), (1, .ref (ad 0 0)), (2, .ref (ad 17 0)), (3, .ref (ad 19 0)), (4, .int (nI i))] [] := by
  refine g_aload_n hB 1 dL_law_537 rfl rfl ?_
  refine g_aload_n hB 0 dL_law_538 rfl rfl ?_
  refine g_iload hB 4 dL_law_539 rfl ?_
  refine g_iconst hB (nI 1) dL_law_541 rfl ?_
  refine g_iadd hB dL_law_542 ?_
  refine g_top (nI (i + 1)) (nI_add _ _) ?_
  refine g_sld hB hX hbl hbA (i + 1) (by omega) (by omega) dL_law_543 ?_
  refine g_aload_n hB 0 dL_law_544 rfl rfl ?_
  refine g_iload hB 4 dL_law_545 rfl ?_
  refine g_iconst hB (nI 2) dL_law_547 rfl ?_
  refine g_iadd hB dL_law_548 ?_
  refine g_top (nI (i + 2)) (nI_add _ _) ?_
  refine g_sld hB hX hbl hbA (i + 2) (by omega) (by omega) dL_law_549 ?_
  refine g_aload_n hB 3 dL_law_550 rfl rfl ?_
  refine g_callHSI hB (c_L_moveMachine hl S ng nm nc t pa h.1 (xs (i + 1)) (xs (i + 2))) k_L_140 yk_L_moveMachine ⟨Nat.le_of_ble_eq_true rfl, Nat.le_of_ble_eq_true rfl⟩ rfl (Nat.le_of_ble_eq_true rfl) ⟨by show cells + 3 ≤ 601024; omega, by show slots + 18 ≤ 7293034; omega⟩ dL_law_551 ?_
  rintro _ _ ⟨rfl, rfl⟩
  refine g_istore hB 5 dL_law_554 (by decide) ?_
  have hR : RI (TT S (mmC S (xs (i + 1)) (xs (i + 2)) ng nm) (uM (egM S (ix (xs (i + 1))) (10 + ix (xs (i + 1))) (ix (xs (i + 2)))) 19 0 0 (S 6 (ix (xs (i + 1))) 1))) ng nm nc t pa := TT_RI h (egM_hi (by decide)) (egM_hi (by decide))
  obtain ⟨⟨hg, hng0, hng⟩, ⟨hm, hnm⟩, ⟨hc, hnc⟩, ⟨ht1, htb⟩, ⟨hpa, hpab⟩, hpar, hgr, hTK, htk⟩ := id hR
  refine g_aload_n hB 2 dL_law_556 rfl rfl ?_
  refine g_aload_n hB 0 dL_law_557 rfl rfl ?_
  refine g_iload hB 4 dL_law_558 rfl ?_
  refine g_iconst hB (nI 1) dL_law_560 rfl ?_
  refine g_iadd hB dL_law_561 ?_
  refine g_top (nI (i + 1)) (nI_add _ _) ?_
  refine g_sld hB hX hbl hbA (i + 1) (by omega) (by omega) dL_law_562 ?_
  refine g_aload_n hB 0 dL_law_563 rfl rfl ?_
  refine g_iload hB 4 dL_law_564 rfl ?_
  refine g_iconst hB (nI 2) dL_law_566 rfl ?_
  refine g_iadd hB dL_law_567 ?_
  refine g_top (nI (i + 2)) (nI_add _ _) ?_
  refine g_sld hB hX hbl hbA (i + 2) (by omega) (by omega) dL_law_568 ?_
  refine g_callVI hB (c_X6_moveMachine _ (xs (i + 1)) (xs (i + 2)) ng nm hg hng hm hnm hpar) k_L_142 rfl yk_X6_moveMachine ⟨Nat.le_of_ble_eq_true rfl, Nat.le_of_ble_eq_true rfl⟩ ⟨(by decide), _, _, _, rfl, rfl, rfl⟩ rfl (Nat.le_of_ble_eq_true rfl) ⟨by show cells + 3 + 0 ≤ 601024; omega, by show slots + 18 + 0 ≤ 7293034; omega⟩ dL_law_569 ?_
  rintro _ _ ⟨rfl, rfl⟩
  exact g_sub [(0, .ref b), (1, .ref (ad 0 0)), (2, .ref (ad 17 0)), (3, .ref (ad 19 0)), (4, .int (nI i)), (5, .int (nI (mmC S (xs (i + 1)) (xs (i + 2)) ng nm)))] rfl (tl_moveMachine hB (okr (step_move h (xs (i + 1)) (xs (i + 2))) mmC3 rMove9) ⟨by show cells + 3 + 0 ≤ K; omega, hK.2⟩ ⟨by show slots + 18 + 0 ≤ N; omega, hN.2⟩ kk)
end LC
