/-! the law: roads of the switch -/
section LC
variable {p : Program} {l : Launch} {e : Env} {s : State} {m : MethodId} {args : Array Value} {below : List Frame} {meth : Method} {c : Code} {D : va_G} {ad : Nat → Nat → Nat} {A : Nat → Prop} {Q : State → Prop} {cells slots : Nat} {ca : Nat → ClassId} {b L : Nat} {xs : Nat → Int32}
theorem law_changes (hB : MB p s m args meth c cL_law RL 7 D ca SR A) (hX : va_X b L xs s s.heap) (hbl : b < s.heap.size) (hbA : ¬ A b) (hL : L ≤ 2560) (hl : l.stackTraces = false) {i K N ng nm nc t pa rk mo : Nat} {S : Mem} (h : INV S ng nm nc t pa rk mo) (hi : i + 5 ≤ L) (ht60 : t + 60 < 2 ^ 20) (hmo : mo + 1 < 2 ^ 20) (hK : cells + 4 ≤ K ∧ K ≤ 601024) (hN : slots + 24 ≤ N ∧ N ≤ 7293034) (kk : KX p l e s m args below meth c D ad A Q ca b i t mo K N) : G p l e room_1 s m args below meth c D ad A 7 Q cells slots CNT (SH ad ca S) 1154 [(0, .ref b), (1, .ref (ad 0 0)), (2, .ref (ad 17 0)), (3, .ref (ad 19 0)), (4, .int (nI i))] [] := by
  refine g_aload_n hB 1 dL_law_1154 rfl rfl ?_
  refine g_callVI hB (c_X5_changes S) k_L_169 rfl yk_X5_changes ⟨Nat.le_of_ble_eq_true rfl, Nat.le_of_ble_eq_true rfl⟩ ⟨(by decide), _, _, _, rfl, rfl, rfl⟩ rfl (Nat.le_of_ble_eq_true rfl) ⟨by show cells + 0 ≤ 601024; omega, by show slots + 0 ≤ 7293034; omega⟩ dL_law_1155 ?_
  rintro _ _ ⟨rfl, rfl⟩
  refine g_aload_n hB 2 dL_law_1158 rfl rfl ?_
  refine g_callVI hB (c_X6_changes S) k_L_172 rfl yk_X6_changes ⟨Nat.le_of_ble_eq_true rfl, Nat.le_of_ble_eq_true rfl⟩ ⟨(by decide), _, _, _, rfl, rfl, rfl⟩ rfl (Nat.le_of_ble_eq_true rfl) ⟨by show cells + 0 + 0 ≤ 601024; omega, by show slots + 0 + 0 ≤ 7293034; omega⟩ dL_law_1159 ?_
  rintro _ _ ⟨rfl, rfl⟩
  refine g_icmp_eq hB 1923 dL_law_1162 (by decide) (fun _ => ?_) (fun z => absurd (h.1.2.2.1.1.trans h.2.1.2.2.1.1.symm) z)
  refine g_widen (k := K) (n := N) (by show cells + 0 + 0 ≤ K; omega) (by show slots + 0 + 0 ≤ N; omega) ?_
  exact g_sub [(0, .ref b), (1, .ref (ad 0 0)), (2, .ref (ad 17 0)), (3, .ref (ad 19 0)), (4, .int (nI i))] rfl (kk _ _ _ _ _ _ _ _ (INV_th h _) (by omega) (by omega))
theorem tl_state (hB : MB p s m args meth c cL_law RL 7 D ca SR A) {i K N t mo code : Nat} {v r : Int32} {T : Mem} (hq : OKR code v t mo r T) (hK : cells ≤ K ∧ K ≤ 601024) (hN : slots ≤ N ∧ N ≤ 7293034) (kk : KX p l e s m args below meth c D ad A Q ca b i t mo K N) : G p l e room_1 s m args below meth c D ad A 7 Q cells slots CNT (SH ad ca T) 1190 [(0, .ref b), (1, .ref (ad 0 0)), (2, .ref (ad 17 0)), (3, .ref (ad 19 0)), (4, .int (nI i)), (5, .int (nI code))] [.int r] := by
  refine g_istore hB 6 dL_law_1190 (by decide) ?_
  refine g_aload_n hB 2 dL_law_1192 rfl rfl ?_
  refine g_callVI hB (c_X6_thrown _) k_L_114 rfl yk_X6_thrown ⟨Nat.le_of_ble_eq_true rfl, Nat.le_of_ble_eq_true rfl⟩ ⟨(by decide), _, _, _, rfl, rfl, rfl⟩ rfl (Nat.le_of_ble_eq_true rfl) ⟨by show cells + 0 ≤ 601024; omega, by show slots + 0 ≤ 7293034; omega⟩ dL_law_1193 ?_
  rintro _ _ ⟨rfl, rfl⟩
  obtain ⟨q1, q2, q3, ng', nm', nc', t', pa', rk', mo', q4, q5, q6⟩ := hq
  refine g_top (nI code) q1 ?_
  refine g_iload hB 5 dL_law_1196 rfl ?_
  refine g_icmp_eq hB 1203 dL_law_1198 (by decide) (fun _ => ?_) (fun z => absurd rfl z)
  refine g_iload hB 5 dL_law_1203 rfl ?_
  by_cases hc : code = 0
  · refine g_top (nI 0) (by rw [hc]) ?_
    refine g_if_ne hB 1220 dL_law_1205 (by decide) (fun z => absurd rfl z) (fun _ => ?_)
    refine g_aload_n hB 3 dL_law_1208 rfl rfl ?_
    refine g_iconst hB (nI 0) dL_law_1209 rfl ?_
    refine g_laldE hB 19 0 0 (n := 1) (f := fun j => (T 19 0 j).toInt64) (by decide) rfl (by decide) (by decide) dL_law_1210 ?_
    refine g_iload hB 6 dL_law_1211 rfl ?_
    refine g_i2l hB dL_law_1213 ?_
    refine g_lcmp hB dL_law_1214 ?_
    refine g_top 0 (by show lg_cmp (T 19 0 0).toInt64 r.toInt64 = 0; rw [(q3 hc).2, (q3 hc).1]; exact lg_cmp_self) ?_
    refine g_if_eq hB 1220 dL_law_1215 (by decide) (fun _ => ?_) (fun z => absurd rfl z)
    refine g_goto hB 1923 dL_law_1220 (by decide) ?_
    refine g_widen (k := K) (n := N) (by show _ + 0 ≤ K; omega) (by show _ + 0 ≤ N; omega) ?_
    exact g_sub [(0, .ref b), (1, .ref (ad 0 0)), (2, .ref (ad 17 0)), (3, .ref (ad 19 0)), (4, .int (nI i))] rfl (kk _ _ _ _ _ _ _ _ q4 q5 q6)
  · refine g_if_ne hB 1220 dL_law_1205 (by decide) (fun _ => ?_) (fun z => absurd z (fun w9 => hc ((nI_eq (a := code) (b := 0) (by omega) (by decide)).mp w9)))
    refine g_goto hB 1923 dL_law_1220 (by decide) ?_
    refine g_widen (k := K) (n := N) (by show _ + 0 ≤ K; omega) (by show _ + 0 ≤ N; omega) ?_
    exact g_sub [(0, .ref b), (1, .ref (ad 0 0)), (2, .ref (ad 17 0)), (3, .ref (ad 19 0)), (4, .int (nI i))] rfl (kk _ _ _ _ _ _ _ _ q4 q5 q6)
theorem law_state (hB : MB p s m args meth c cL_law RL 7 D ca SR A) (hX : va_X b L xs s s.heap) (hbl : b < s.heap.size) (hbA : ¬ A b) (hL : L ≤ 2560) (hl : l.stackTraces = false) {i K N ng nm nc t pa rk mo : Nat} {S : Mem} (h : INV S ng nm nc t pa rk mo) (hi : i + 5 ≤ L) (ht60 : t + 60 < 2 ^ 20) (hmo : mo + 1 < 2 ^ 20) (hK : cells + 4 ≤ K ∧ K ≤ 601024) (hN : slots + 24 ≤ N ∧ N ≤ 7293034) (kk : KX p l e s m args below meth c D ad A Q ca b i t mo K N) : G p l e room_1 s m args below meth c D ad A 7 Q cells slots CNT (SH ad ca S) 1167 [(0, .ref b), (1, .ref (ad 0 0)), (2, .ref (ad 17 0)), (3, .ref (ad 19 0)), (4, .int (nI i))] [] := by
  refine g_aload_n hB 1 dL_law_1167 rfl rfl ?_
  refine g_aload_n hB 0 dL_law_1168 rfl rfl ?_
  refine g_iload hB 4 dL_law_1169 rfl ?_
  refine g_iconst hB (nI 1) dL_law_1171 rfl ?_
  refine g_iadd hB dL_law_1172 ?_
  refine g_top (nI (i + 1)) (nI_add _ _) ?_
  refine g_sld hB hX hbl hbA (i + 1) (by omega) (by omega) dL_law_1173 ?_
  refine g_aload_n hB 3 dL_law_1174 rfl rfl ?_
  refine g_callHSI hB (c_L_state hl S ng nm nc t pa h.1 (xs (i + 1))) k_L_173 yk_L_state ⟨Nat.le_of_ble_eq_true rfl, Nat.le_of_ble_eq_true rfl⟩ rfl (Nat.le_of_ble_eq_true rfl) ⟨by show cells + 1 ≤ 601024; omega, by show slots + 6 ≤ 7293034; omega⟩ dL_law_1175 ?_
  rintro _ _ ⟨rfl, rfl⟩
  refine g_istore hB 5 dL_law_1178 (by decide) ?_
  have hR : RI (TT S (rqC (xs (i + 1)) nc) (uM (S) 19 0 0 (S 9 (ix (xs (i + 1))) 4))) ng nm nc t pa := TT_RI h (rfl) (rfl)
  obtain ⟨⟨hg, hng0, hng⟩, ⟨hm, hnm⟩, ⟨hc, hnc⟩, ⟨ht1, htb⟩, ⟨hpa, hpab⟩, hpar, hgr, hTK, htk⟩ := id hR
  refine g_aload_n hB 2 dL_law_1180 rfl rfl ?_
  refine g_aload_n hB 0 dL_law_1181 rfl rfl ?_
  refine g_iload hB 4 dL_law_1182 rfl ?_
  refine g_iconst hB (nI 1) dL_law_1184 rfl ?_
  refine g_iadd hB dL_law_1185 ?_
  refine g_top (nI (i + 1)) (nI_add _ _) ?_
  refine g_sld hB hX hbl hbA (i + 1) (by omega) (by omega) dL_law_1186 ?_
  refine g_callVI hB (c_X6_state _ (xs (i + 1)) nc hc hnc) k_L_175 rfl yk_X6_state ⟨Nat.le_of_ble_eq_true rfl, Nat.le_of_ble_eq_true rfl⟩ ⟨(by decide), _, _, _, rfl, rfl, rfl⟩ rfl (Nat.le_of_ble_eq_true rfl) ⟨by show cells + 1 + 0 ≤ 601024; omega, by show slots + 6 + 0 ≤ 7293034; omega⟩ dL_law_1187 ?_
  rintro _ _ ⟨rfl, rfl⟩
  exact g_sub [(0, .ref b), (1, .ref (ad 0 0)), (2, .ref (ad 17 0)), (3, .ref (ad 19 0)), (4, .int (nI i)), (5, .int (nI (rqC (xs (i + 1)) nc)))] rfl (tl_state hB (okr (step_state h (xs (i + 1))) rqC3 rAt9) ⟨by show cells + 1 + 0 ≤ K; omega, hK.2⟩ ⟨by show slots + 6 + 0 ≤ N; omega, hN.2⟩ kk)
theorem tl_rank (hB : MB p s m args meth c cL_law RL 7 D ca SR A) {i K N t mo code : Nat} {v r : Int32} {T : Mem} (hq : OKR code v t mo r T) (hK : cells ≤ K ∧ K ≤ 601024) (hN : slots ≤ N ∧ N ≤ 7293034) (kk : KX p l e s m args below meth c D ad A Q ca b i t mo K N) : G p l e room_1 s m args below meth c D ad A 7 Q cells slots CNT (SH ad ca T) 1246 [(0, .ref b), (1, .ref (ad 0 0)), (2, .ref (ad 17 0)), (3, .ref (ad 19 0)), (4, .int (nI i)), (5, .int (nI code))] [.int r] := by
  refine g_istore hB 6 dL_law_1246 (by decide) ?_
  refine g_aload_n hB 2 dL_law_1248 rfl rfl ?_
  refine g_callVI hB (c_X6_thrown _) k_L_114 rfl yk_X6_thrown ⟨Nat.le_of_ble_eq_true rfl, Nat.le_of_ble_eq_true rfl⟩ ⟨(by decide), _, _, _, rfl, rfl, rfl⟩ rfl (Nat.le_of_ble_eq_true rfl) ⟨by show cells + 0 ≤ 601024; omega, by show slots + 0 ≤ 7293034; omega⟩ dL_law_1249 ?_
  rintro _ _ ⟨rfl, rfl⟩
  obtain ⟨q1, q2, q3, ng', nm', nc', t', pa', rk', mo', q4, q5, q6⟩ := hq
  refine g_top (nI code) q1 ?_
  refine g_iload hB 5 dL_law_1252 rfl ?_
  refine g_icmp_eq hB 1259 dL_law_1254 (by decide) (fun _ => ?_) (fun z => absurd rfl z)
  refine g_iload hB 5 dL_law_1259 rfl ?_
  by_cases hc : code = 0
  · refine g_top (nI 0) (by rw [hc]) ?_
    refine g_if_ne hB 1276 dL_law_1261 (by decide) (fun z => absurd rfl z) (fun _ => ?_)
    refine g_aload_n hB 3 dL_law_1264 rfl rfl ?_
    refine g_iconst hB (nI 0) dL_law_1265 rfl ?_
    refine g_laldE hB 19 0 0 (n := 1) (f := fun j => (T 19 0 j).toInt64) (by decide) rfl (by decide) (by decide) dL_law_1266 ?_
    refine g_iload hB 6 dL_law_1267 rfl ?_
    refine g_i2l hB dL_law_1269 ?_
    refine g_lcmp hB dL_law_1270 ?_
    refine g_top 0 (by show lg_cmp (T 19 0 0).toInt64 r.toInt64 = 0; rw [(q3 hc).2, (q3 hc).1]; exact lg_cmp_self) ?_
    refine g_if_eq hB 1276 dL_law_1271 (by decide) (fun _ => ?_) (fun z => absurd rfl z)
    refine g_goto hB 1923 dL_law_1276 (by decide) ?_
    refine g_widen (k := K) (n := N) (by show _ + 0 ≤ K; omega) (by show _ + 0 ≤ N; omega) ?_
    exact g_sub [(0, .ref b), (1, .ref (ad 0 0)), (2, .ref (ad 17 0)), (3, .ref (ad 19 0)), (4, .int (nI i))] rfl (kk _ _ _ _ _ _ _ _ q4 q5 q6)
  · refine g_if_ne hB 1276 dL_law_1261 (by decide) (fun _ => ?_) (fun z => absurd z (fun w9 => hc ((nI_eq (a := code) (b := 0) (by omega) (by decide)).mp w9)))
    refine g_goto hB 1923 dL_law_1276 (by decide) ?_
    refine g_widen (k := K) (n := N) (by show _ + 0 ≤ K; omega) (by show _ + 0 ≤ N; omega) ?_
    exact g_sub [(0, .ref b), (1, .ref (ad 0 0)), (2, .ref (ad 17 0)), (3, .ref (ad 19 0)), (4, .int (nI i))] rfl (kk _ _ _ _ _ _ _ _ q4 q5 q6)
theorem law_rank (hB : MB p s m args meth c cL_law RL 7 D ca SR A) (hX : va_X b L xs s s.heap) (hbl : b < s.heap.size) (hbA : ¬ A b) (hL : L ≤ 2560) (hl : l.stackTraces = false) {i K N ng nm nc t pa rk mo : Nat} {S : Mem} (h : INV S ng nm nc t pa rk mo) (hi : i + 5 ≤ L) (ht60 : t + 60 < 2 ^ 20) (hmo : mo + 1 < 2 ^ 20) (hK : cells + 4 ≤ K ∧ K ≤ 601024) (hN : slots + 24 ≤ N ∧ N ≤ 7293034) (kk : KX p l e s m args below meth c D ad A Q ca b i t mo K N) : G p l e room_1 s m args below meth c D ad A 7 Q cells slots CNT (SH ad ca S) 1223 [(0, .ref b), (1, .ref (ad 0 0)), (2, .ref (ad 17 0)), (3, .ref (ad 19 0)), (4, .int (nI i))] [] := by
  refine g_aload_n hB 1 dL_law_1223 rfl rfl ?_
  refine g_aload_n hB 0 dL_law_1224 rfl rfl ?_
  refine g_iload hB 4 dL_law_1225 rfl ?_
  refine g_iconst hB (nI 1) dL_law_1227 rfl ?_
  refine g_iadd hB dL_law_1228 ?_
  refine g_top (nI (i + 1)) (nI_add _ _) ?_
  refine g_sld hB hX hbl hbA (i + 1) (by omega) (by omega) dL_law_1229 ?_
  refine g_aload_n hB 3 dL_law_1230 rfl rfl ?_
  refine g_callHSI hB (c_L_rank hl S ng nm nc t pa h.1 (xs (i + 1))) k_L_176 yk_L_rank ⟨Nat.le_of_ble_eq_true rfl, Nat.le_of_ble_eq_true rfl⟩ rfl (Nat.le_of_ble_eq_true rfl) ⟨by show cells + 1 ≤ 601024; omega, by show slots + 6 ≤ 7293034; omega⟩ dL_law_1231 ?_
  rintro _ _ ⟨rfl, rfl⟩
  refine g_istore hB 5 dL_law_1234 (by decide) ?_
  have hR : RI (TT S (rqC (xs (i + 1)) nc) (uM (S) 19 0 0 (S 14 0 (ix (xs (i + 1)))))) ng nm nc t pa := TT_RI h (rfl) (rfl)
  obtain ⟨⟨hg, hng0, hng⟩, ⟨hm, hnm⟩, ⟨hc, hnc⟩, ⟨ht1, htb⟩, ⟨hpa, hpab⟩, hpar, hgr, hTK, htk⟩ := id hR
  refine g_aload_n hB 2 dL_law_1236 rfl rfl ?_
  refine g_aload_n hB 0 dL_law_1237 rfl rfl ?_
  refine g_iload hB 4 dL_law_1238 rfl ?_
  refine g_iconst hB (nI 1) dL_law_1240 rfl ?_
  refine g_iadd hB dL_law_1241 ?_
  refine g_top (nI (i + 1)) (nI_add _ _) ?_
  refine g_sld hB hX hbl hbA (i + 1) (by omega) (by omega) dL_law_1242 ?_
  refine g_callVI hB (c_X6_rank _ (xs (i + 1)) nc hc hnc) k_L_178 rfl yk_X6_rank ⟨Nat.le_of_ble_eq_true rfl, Nat.le_of_ble_eq_true rfl⟩ ⟨(by decide), _, _, _, rfl, rfl, rfl⟩ rfl (Nat.le_of_ble_eq_true rfl) ⟨by show cells + 1 + 0 ≤ 601024; omega, by show slots + 6 + 0 ≤ 7293034; omega⟩ dL_law_1243 ?_
  rintro _ _ ⟨rfl, rfl⟩
  exact g_sub [(0, .ref b), (1, .ref (ad 0 0)), (2, .ref (ad 17 0)), (3, .ref (ad 19 0)), (4, .int (nI i)), (5, .int (nI (rqC (xs (i + 1)) nc)))] rfl (tl_rank hB (okr (step_rank h (xs (i + 1))) rqC3 rAt9) ⟨by show cells + 1 + 0 ≤ K; omega, hK.2⟩ ⟨by show slots + 6 + 0 ≤ N; omega, hN.2⟩ kk)
theorem tl_approvals (hB : MB p s m args meth c cL_law RL 7 D ca SR A) {i K N t mo code : Nat} {v r : Int32} {T : Mem} (hq : OKR code v t mo r T) (hK : cells ≤ K ∧ K ≤ 601024) (hN : slots ≤ N ∧ N ≤ 7293034) (kk : KX p l e s m args below meth c D ad A Q ca b i t mo K N) : G p l e room_1 s m args below meth c D ad A 7 Q cells slots CNT (SH ad ca T) 1302 [(0, .ref b), (1, .ref (ad 0 0)), (2, .ref (ad 17 0)), (3, .ref (ad 19 0)), (4, .int (nI i)), (5, .int (nI code))] [.int r] := by
  refine g_istore hB 6 dL_law_1302 (by decide) ?_
  refine g_aload_n hB 2 dL_law_1304 rfl rfl ?_
  refine g_callVI hB (c_X6_thrown _) k_L_114 rfl yk_X6_thrown ⟨Nat.le_of_ble_eq_true rfl, Nat.le_of_ble_eq_true rfl⟩ ⟨(by decide), _, _, _, rfl, rfl, rfl⟩ rfl (Nat.le_of_ble_eq_true rfl) ⟨by show cells + 0 ≤ 601024; omega, by show slots + 0 ≤ 7293034; omega⟩ dL_law_1305 ?_
  rintro _ _ ⟨rfl, rfl⟩
  obtain ⟨q1, q2, q3, ng', nm', nc', t', pa', rk', mo', q4, q5, q6⟩ := hq
  refine g_top (nI code) q1 ?_
  refine g_iload hB 5 dL_law_1308 rfl ?_
  refine g_icmp_eq hB 1315 dL_law_1310 (by decide) (fun _ => ?_) (fun z => absurd rfl z)
  refine g_iload hB 5 dL_law_1315 rfl ?_
  by_cases hc : code = 0
  · refine g_top (nI 0) (by rw [hc]) ?_
    refine g_if_ne hB 1332 dL_law_1317 (by decide) (fun z => absurd rfl z) (fun _ => ?_)
    refine g_aload_n hB 3 dL_law_1320 rfl rfl ?_
    refine g_iconst hB (nI 0) dL_law_1321 rfl ?_
    refine g_laldE hB 19 0 0 (n := 1) (f := fun j => (T 19 0 j).toInt64) (by decide) rfl (by decide) (by decide) dL_law_1322 ?_
    refine g_iload hB 6 dL_law_1323 rfl ?_
    refine g_i2l hB dL_law_1325 ?_
    refine g_lcmp hB dL_law_1326 ?_
    refine g_top 0 (by show lg_cmp (T 19 0 0).toInt64 r.toInt64 = 0; rw [(q3 hc).2, (q3 hc).1]; exact lg_cmp_self) ?_
    refine g_if_eq hB 1332 dL_law_1327 (by decide) (fun _ => ?_) (fun z => absurd rfl z)
    refine g_goto hB 1923 dL_law_1332 (by decide) ?_
    refine g_widen (k := K) (n := N) (by show _ + 0 ≤ K; omega) (by show _ + 0 ≤ N; omega) ?_
    exact g_sub [(0, .ref b), (1, .ref (ad 0 0)), (2, .ref (ad 17 0)), (3, .ref (ad 19 0)), (4, .int (nI i))] rfl (kk _ _ _ _ _ _ _ _ q4 q5 q6)
  · refine g_if_ne hB 1332 dL_law_1317 (by decide) (fun _ => ?_) (fun z => absurd z (fun w9 => hc ((nI_eq (a := code) (b := 0) (by omega) (by decide)).mp w9)))
    refine g_goto hB 1923 dL_law_1332 (by decide) ?_
    refine g_widen (k := K) (n := N) (by show _ + 0 ≤ K; omega) (by show _ + 0 ≤ N; omega) ?_
    exact g_sub [(0, .ref b), (1, .ref (ad 0 0)), (2, .ref (ad 17 0)), (3, .ref (ad 19 0)), (4, .int (nI i))] rfl (kk _ _ _ _ _ _ _ _ q4 q5 q6)
theorem law_approvals (hB : MB p s m args meth c cL_law RL 7 D ca SR A) (hX : va_X b L xs s s.heap) (hbl : b < s.heap.size) (hbA : ¬ A b) (hL : L ≤ 2560) (hl : l.stackTraces = false) {i K N ng nm nc t pa rk mo : Nat} {S : Mem} (h : INV S ng nm nc t pa rk mo) (hi : i + 5 ≤ L) (ht60 : t + 60 < 2 ^ 20) (hmo : mo + 1 < 2 ^ 20) (hK : cells + 4 ≤ K ∧ K ≤ 601024) (hN : slots + 24 ≤ N ∧ N ≤ 7293034) (kk : KX p l e s m args below meth c D ad A Q ca b i t mo K N) : G p l e room_1 s m args below meth c D ad A 7 Q cells slots CNT (SH ad ca S) 1279 [(0, .ref b), (1, .ref (ad 0 0)), (2, .ref (ad 17 0)), (3, .ref (ad 19 0)), (4, .int (nI i))] [] := by
  refine g_aload_n hB 1 dL_law_1279 rfl rfl ?_
  refine g_aload_n hB 0 dL_law_1280 rfl rfl ?_
  refine g_iload hB 4 dL_law_1281 rfl ?_
  refine g_iconst hB (nI 1) dL_law_1283 rfl ?_
  refine g_iadd hB dL_law_1284 ?_
  refine g_top (nI (i + 1)) (nI_add _ _) ?_
  refine g_sld hB hX hbl hbA (i + 1) (by omega) (by omega) dL_law_1285 ?_
  refine g_aload_n hB 3 dL_law_1286 rfl rfl ?_
  refine g_callHSI hB (c_L_approvals hl S ng nm nc t pa h.1 (xs (i + 1))) k_L_179 yk_L_approvals ⟨Nat.le_of_ble_eq_true rfl, Nat.le_of_ble_eq_true rfl⟩ rfl (Nat.le_of_ble_eq_true rfl) ⟨by show cells + 1 ≤ 601024; omega, by show slots + 6 ≤ 7293034; omega⟩ dL_law_1287 ?_
  rintro _ _ ⟨rfl, rfl⟩
  refine g_istore hB 5 dL_law_1290 (by decide) ?_
  have hR : RI (TT S (rqC (xs (i + 1)) nc) (uM (S) 19 0 0 (bcF (S 9 (ix (xs (i + 1))) 5)))) ng nm nc t pa := TT_RI h (rfl) (rfl)
  obtain ⟨⟨hg, hng0, hng⟩, ⟨hm, hnm⟩, ⟨hc, hnc⟩, ⟨ht1, htb⟩, ⟨hpa, hpab⟩, hpar, hgr, hTK, htk⟩ := id hR
  refine g_aload_n hB 2 dL_law_1292 rfl rfl ?_
  refine g_aload_n hB 0 dL_law_1293 rfl rfl ?_
  refine g_iload hB 4 dL_law_1294 rfl ?_
  refine g_iconst hB (nI 1) dL_law_1296 rfl ?_
  refine g_iadd hB dL_law_1297 ?_
  refine g_top (nI (i + 1)) (nI_add _ _) ?_
  refine g_sld hB hX hbl hbA (i + 1) (by omega) (by omega) dL_law_1298 ?_
  refine g_callVI hB (c_X6_approvals _ (xs (i + 1)) nc hc hnc) k_L_181 rfl yk_X6_approvals ⟨Nat.le_of_ble_eq_true rfl, Nat.le_of_ble_eq_true rfl⟩ ⟨(by decide), _, _, _, rfl, rfl, rfl⟩ rfl (Nat.le_of_ble_eq_true rfl) ⟨by show cells + 1 + 0 ≤ 601024; omega, by show slots + 6 + 0 ≤ 7293034; omega⟩ dL_law_1299 ?_
  rintro _ _ ⟨rfl, rfl⟩
  exact g_sub [(0, .ref b), (1, .ref (ad 0 0)), (2, .ref (ad 17 0)), (3, .ref (ad 19 0)), (4, .int (nI i)), (5, .int (nI (rqC (xs (i + 1)) nc)))] rfl (tl_approvals hB (okr (step_approvals h (xs (i + 1))) rqC3 rApprovals9) ⟨by show cells + 1 + 0 ≤ K; omega, hK.2⟩ ⟨by show slots + 6 + 0 ≤ N; omega, hN.2⟩ kk)
theorem tl_told (hB : MB p s m args meth c cL_law RL 7 D ca SR A) {i K N t mo code : Nat} {v r : Int32} {T : Mem} (hq : OKR code v t mo r T) (hK : cells ≤ K ∧ K ≤ 601024) (hN : slots ≤ N ∧ N ≤ 7293034) (kk : KX p l e s m args below meth c D ad A Q ca b i t mo K N) : G p l e room_1 s m args below meth c D ad A 7 Q cells slots CNT (SH ad ca T) 1370 [(0, .ref b), (1, .ref (ad 0 0)), (2, .ref (ad 17 0)), (3, .ref (ad 19 0)), (4, .int (nI i)), (5, .int (nI code))] [.int r] := by
  refine g_istore hB 6 dL_law_1370 (by decide) ?_
  refine g_aload_n hB 2 dL_law_1372 rfl rfl ?_
  refine g_callVI hB (c_X6_thrown _) k_L_114 rfl yk_X6_thrown ⟨Nat.le_of_ble_eq_true rfl, Nat.le_of_ble_eq_true rfl⟩ ⟨(by decide), _, _, _, rfl, rfl, rfl⟩ rfl (Nat.le_of_ble_eq_true rfl) ⟨by show cells + 0 ≤ 601024; omega, by show slots + 0 ≤ 7293034; omega⟩ dL_law_1373 ?_
  rintro _ _ ⟨rfl, rfl⟩
  obtain ⟨q1, q2, q3, ng', nm', nc', t', pa', rk', mo', q4, q5, q6⟩ := hq
  refine g_top (nI code) q1 ?_
  refine g_iload hB 5 dL_law_1376 rfl ?_
  refine g_icmp_eq hB 1383 dL_law_1378 (by decide) (fun _ => ?_) (fun z => absurd rfl z)
  refine g_iload hB 5 dL_law_1383 rfl ?_
  by_cases hc : code = 0
  · refine g_top (nI 0) (by rw [hc]) ?_
    refine g_if_ne hB 1400 dL_law_1385 (by decide) (fun z => absurd rfl z) (fun _ => ?_)
    refine g_aload_n hB 3 dL_law_1388 rfl rfl ?_
    refine g_iconst hB (nI 0) dL_law_1389 rfl ?_
    refine g_laldE hB 19 0 0 (n := 1) (f := fun j => (T 19 0 j).toInt64) (by decide) rfl (by decide) (by decide) dL_law_1390 ?_
    refine g_iload hB 6 dL_law_1391 rfl ?_
    refine g_i2l hB dL_law_1393 ?_
    refine g_lcmp hB dL_law_1394 ?_
    refine g_top 0 (by show lg_cmp (T 19 0 0).toInt64 r.toInt64 = 0; rw [(q3 hc).2, (q3 hc).1]; exact lg_cmp_self) ?_
    refine g_if_eq hB 1400 dL_law_1395 (by decide) (fun _ => ?_) (fun z => absurd rfl z)
    refine g_goto hB 1923 dL_law_1400 (by decide) ?_
    refine g_widen (k := K) (n := N) (by show _ + 0 ≤ K; omega) (by show _ + 0 ≤ N; omega) ?_
    exact g_sub [(0, .ref b), (1, .ref (ad 0 0)), (2, .ref (ad 17 0)), (3, .ref (ad 19 0)), (4, .int (nI i))] rfl (kk _ _ _ _ _ _ _ _ q4 q5 q6)
  · refine g_if_ne hB 1400 dL_law_1385 (by decide) (fun _ => ?_) (fun z => absurd z (fun w9 => hc ((nI_eq (a := code) (b := 0) (by omega) (by decide)).mp w9)))
    refine g_goto hB 1923 dL_law_1400 (by decide) ?_
    refine g_widen (k := K) (n := N) (by show _ + 0 ≤ K; omega) (by show _ + 0 ≤ N; omega) ?_
    exact g_sub [(0, .ref b), (1, .ref (ad 0 0)), (2, .ref (ad 17 0)), (3, .ref (ad 19 0)), (4, .int (nI i))] rfl (kk _ _ _ _ _ _ _ _ q4 q5 q6)
theorem law_told (hB : MB p s m args meth c cL_law RL 7 D ca SR A) (hX : va_X b L xs s s.heap) (hbl : b < s.heap.size) (hbA : ¬ A b) (hL : L ≤ 2560) (hl : l.stackTraces = false) {i K N ng nm nc t pa rk mo : Nat} {S : Mem} (h : INV S ng nm nc t pa rk mo) (hi : i + 5 ≤ L) (ht60 : t + 60 < 2 ^ 20) (hmo : mo + 1 < 2 ^ 20) (hK : cells + 4 ≤ K ∧ K ≤ 601024) (hN : slots + 24 ≤ N ∧ N ≤ 7293034) (kk : KX p l e s m args below meth c D ad A Q ca b i t mo K N) : G p l e room_1 s m args below meth c D ad A 7 Q cells slots CNT (SH ad ca S) 1335 [(0, .ref b), (1, .ref (ad 0 0)), (2, .ref (ad 17 0)), (3, .ref (ad 19 0)), (4, .int (nI i))] [] := by
  refine g_aload_n hB 1 dL_law_1335 rfl rfl ?_
  refine g_aload_n hB 0 dL_law_1336 rfl rfl ?_
  refine g_iload hB 4 dL_law_1337 rfl ?_
  refine g_iconst hB (nI 1) dL_law_1339 rfl ?_
  refine g_iadd hB dL_law_1340 ?_
  refine g_top (nI (i + 1)) (nI_add _ _) ?_
  refine g_sld hB hX hbl hbA (i + 1) (by omega) (by omega) dL_law_1341 ?_
  refine g_aload_n hB 0 dL_law_1342 rfl rfl ?_
  refine g_iload hB 4 dL_law_1343 rfl ?_
  refine g_iconst hB (nI 2) dL_law_1345 rfl ?_
  refine g_iadd hB dL_law_1346 ?_
  refine g_top (nI (i + 2)) (nI_add _ _) ?_
  refine g_sld hB hX hbl hbA (i + 2) (by omega) (by omega) dL_law_1347 ?_
  refine g_aload_n hB 3 dL_law_1348 rfl rfl ?_
  refine g_callHSI hB (c_L_told hl S ng nm nc t pa h.1 (xs (i + 1)) (xs (i + 2))) k_L_182 yk_L_told ⟨Nat.le_of_ble_eq_true rfl, Nat.le_of_ble_eq_true rfl⟩ rfl (Nat.le_of_ble_eq_true rfl) ⟨by show cells + 2 ≤ 601024; omega, by show slots + 12 ≤ 7293034; omega⟩ dL_law_1349 ?_
  rintro _ _ ⟨rfl, rfl⟩
  refine g_istore hB 5 dL_law_1352 (by decide) ?_
  have hR : RI (TT S (toC (xs (i + 1)) (xs (i + 2)) ng nm) (uM (S) 19 0 0 (toV S nc (ix (slF (xs (i + 1)) ng nm)) (ix (xs (i + 2)))))) ng nm nc t pa := TT_RI h (rfl) (rfl)
  obtain ⟨⟨hg, hng0, hng⟩, ⟨hm, hnm⟩, ⟨hc, hnc⟩, ⟨ht1, htb⟩, ⟨hpa, hpab⟩, hpar, hgr, hTK, htk⟩ := id hR
  refine g_aload_n hB 2 dL_law_1354 rfl rfl ?_
  refine g_aload_n hB 0 dL_law_1355 rfl rfl ?_
  refine g_iload hB 4 dL_law_1356 rfl ?_
  refine g_iconst hB (nI 1) dL_law_1358 rfl ?_
  refine g_iadd hB dL_law_1359 ?_
  refine g_top (nI (i + 1)) (nI_add _ _) ?_
  refine g_sld hB hX hbl hbA (i + 1) (by omega) (by omega) dL_law_1360 ?_
  refine g_aload_n hB 0 dL_law_1361 rfl rfl ?_
  refine g_iload hB 4 dL_law_1362 rfl ?_
  refine g_iconst hB (nI 2) dL_law_1364 rfl ?_
  refine g_iadd hB dL_law_1365 ?_
  refine g_top (nI (i + 2)) (nI_add _ _) ?_
  refine g_sld hB hX hbl hbA (i + 2) (by omega) (by omega) dL_law_1366 ?_
  refine g_callVI hB (c_X6_told _ (xs (i + 1)) (xs (i + 2)) ng nm nc hg hng hm hnm hc hnc) k_L_184 rfl yk_X6_told ⟨Nat.le_of_ble_eq_true rfl, Nat.le_of_ble_eq_true rfl⟩ ⟨(by decide), _, _, _, rfl, rfl, rfl⟩ rfl (Nat.le_of_ble_eq_true rfl) ⟨by show cells + 2 + 0 ≤ 601024; omega, by show slots + 12 + 0 ≤ 7293034; omega⟩ dL_law_1367 ?_
  rintro _ _ ⟨rfl, rfl⟩
  exact g_sub [(0, .ref b), (1, .ref (ad 0 0)), (2, .ref (ad 17 0)), (3, .ref (ad 19 0)), (4, .int (nI i)), (5, .int (nI (toC (xs (i + 1)) (xs (i + 2)) ng nm)))] rfl (tl_told hB (okr (step_told h (xs (i + 1)) (xs (i + 2))) toC3 rTold9) ⟨by show cells + 2 + 0 ≤ K; omega, hK.2⟩ ⟨by show slots + 12 + 0 ≤ N; omega, hN.2⟩ kk)
theorem tl_taken (hB : MB p s m args meth c cL_law RL 7 D ca SR A) {i K N t mo code : Nat} {v r : Int32} {T : Mem} (hq : OKR code v t mo r T) (hK : cells ≤ K ∧ K ≤ 601024) (hN : slots ≤ N ∧ N ≤ 7293034) (kk : KX p l e s m args below meth c D ad A Q ca b i t mo K N) : G p l e room_1 s m args below meth c D ad A 7 Q cells slots CNT (SH ad ca T) 1450 [(0, .ref b), (1, .ref (ad 0 0)), (2, .ref (ad 17 0)), (3, .ref (ad 19 0)), (4, .int (nI i)), (5, .int (nI code))] [.int r] := by
  refine g_istore hB 6 dL_law_1450 (by decide) ?_
  refine g_aload_n hB 2 dL_law_1452 rfl rfl ?_
  refine g_callVI hB (c_X6_thrown _) k_L_114 rfl yk_X6_thrown ⟨Nat.le_of_ble_eq_true rfl, Nat.le_of_ble_eq_true rfl⟩ ⟨(by decide), _, _, _, rfl, rfl, rfl⟩ rfl (Nat.le_of_ble_eq_true rfl) ⟨by show cells + 0 ≤ 601024; omega, by show slots + 0 ≤ 7293034; omega⟩ dL_law_1453 ?_
  rintro _ _ ⟨rfl, rfl⟩
  obtain ⟨q1, q2, q3, ng', nm', nc', t', pa', rk', mo', q4, q5, q6⟩ := hq
  refine g_top (nI code) q1 ?_
  refine g_iload hB 5 dL_law_1456 rfl ?_
  refine g_icmp_eq hB 1463 dL_law_1458 (by decide) (fun _ => ?_) (fun z => absurd rfl z)
  refine g_iload hB 5 dL_law_1463 rfl ?_
  by_cases hc : code = 0
  · refine g_top (nI 0) (by rw [hc]) ?_
    refine g_if_ne hB 1480 dL_law_1465 (by decide) (fun z => absurd rfl z) (fun _ => ?_)
    refine g_aload_n hB 3 dL_law_1468 rfl rfl ?_
    refine g_iconst hB (nI 0) dL_law_1469 rfl ?_
    refine g_laldE hB 19 0 0 (n := 1) (f := fun j => (T 19 0 j).toInt64) (by decide) rfl (by decide) (by decide) dL_law_1470 ?_
    refine g_iload hB 6 dL_law_1471 rfl ?_
    refine g_i2l hB dL_law_1473 ?_
    refine g_lcmp hB dL_law_1474 ?_
    refine g_top 0 (by show lg_cmp (T 19 0 0).toInt64 r.toInt64 = 0; rw [(q3 hc).2, (q3 hc).1]; exact lg_cmp_self) ?_
    refine g_if_eq hB 1480 dL_law_1475 (by decide) (fun _ => ?_) (fun z => absurd rfl z)
    refine g_goto hB 1923 dL_law_1480 (by decide) ?_
    refine g_widen (k := K) (n := N) (by show _ + 0 ≤ K; omega) (by show _ + 0 ≤ N; omega) ?_
    exact g_sub [(0, .ref b), (1, .ref (ad 0 0)), (2, .ref (ad 17 0)), (3, .ref (ad 19 0)), (4, .int (nI i))] rfl (kk _ _ _ _ _ _ _ _ q4 q5 q6)
  · refine g_if_ne hB 1480 dL_law_1465 (by decide) (fun _ => ?_) (fun z => absurd z (fun w9 => hc ((nI_eq (a := code) (b := 0) (by omega) (by decide)).mp w9)))
    refine g_goto hB 1923 dL_law_1480 (by decide) ?_
    refine g_widen (k := K) (n := N) (by show _ + 0 ≤ K; omega) (by show _ + 0 ≤ N; omega) ?_
    exact g_sub [(0, .ref b), (1, .ref (ad 0 0)), (2, .ref (ad 17 0)), (3, .ref (ad 19 0)), (4, .int (nI i))] rfl (kk _ _ _ _ _ _ _ _ q4 q5 q6)
theorem law_taken (hB : MB p s m args meth c cL_law RL 7 D ca SR A) (hX : va_X b L xs s s.heap) (hbl : b < s.heap.size) (hbA : ¬ A b) (hL : L ≤ 2560) (hl : l.stackTraces = false) {i K N ng nm nc t pa rk mo : Nat} {S : Mem} (h : INV S ng nm nc t pa rk mo) (hi : i + 5 ≤ L) (ht60 : t + 60 < 2 ^ 20) (hmo : mo + 1 < 2 ^ 20) (hK : cells + 4 ≤ K ∧ K ≤ 601024) (hN : slots + 24 ≤ N ∧ N ≤ 7293034) (kk : KX p l e s m args below meth c D ad A Q ca b i t mo K N) : G p l e room_1 s m args below meth c D ad A 7 Q cells slots CNT (SH ad ca S) 1403 [(0, .ref b), (1, .ref (ad 0 0)), (2, .ref (ad 17 0)), (3, .ref (ad 19 0)), (4, .int (nI i))] [] := by
  refine g_aload_n hB 1 dL_law_1403 rfl rfl ?_
  refine g_aload_n hB 0 dL_law_1404 rfl rfl ?_
  refine g_iload hB 4 dL_law_1405 rfl ?_
  refine g_iconst hB (nI 1) dL_law_1407 rfl ?_
  refine g_iadd hB dL_law_1408 ?_
  refine g_top (nI (i + 1)) (nI_add _ _) ?_
  refine g_sld hB hX hbl hbA (i + 1) (by omega) (by omega) dL_law_1409 ?_
  refine g_aload_n hB 0 dL_law_1410 rfl rfl ?_
  refine g_iload hB 4 dL_law_1411 rfl ?_
  refine g_iconst hB (nI 2) dL_law_1413 rfl ?_
  refine g_iadd hB dL_law_1414 ?_
  refine g_top (nI (i + 2)) (nI_add _ _) ?_
  refine g_sld hB hX hbl hbA (i + 2) (by omega) (by omega) dL_law_1415 ?_
  refine g_aload_n hB 0 dL_law_1416 rfl rfl ?_
  refine g_iload hB 4 dL_law_1417 rfl ?_
  refine g_iconst hB (nI 3) dL_law_1419 rfl ?_
  refine g_iadd hB dL_law_1420 ?_
  refine g_top (nI (i + 3)) (nI_add _ _) ?_
  refine g_sld hB hX hbl hbA (i + 3) (by omega) (by omega) dL_law_1421 ?_
  refine g_aload_n hB 3 dL_law_1422 rfl rfl ?_
  refine g_callHSI hB (c_L_taken hl S ng nm nc t pa h.1 (xs (i + 1)) (xs (i + 2)) (xs (i + 3))) k_L_185 yk_L_taken ⟨Nat.le_of_ble_eq_true rfl, Nat.le_of_ble_eq_true rfl⟩ rfl (Nat.le_of_ble_eq_true rfl) ⟨by show cells + 3 ≤ 601024; omega, by show slots + 18 ≤ 7293034; omega⟩ dL_law_1423 ?_
  rintro _ _ ⟨rfl, rfl⟩
  refine g_istore hB 5 dL_law_1426 (by decide) ?_
  have hR : RI (TT S (taC S (xs (i + 1)) (xs (i + 2)) (xs (i + 3)) nm) (uM (S) 19 0 0 (S 8 (ix (xs (i + 1))) ((clay S (ix (xs (i + 1)))).getD (ix (xs (i + 2))) 0 * 6 + ix (xs (i + 3)))))) ng nm nc t pa := TT_RI h (rfl) (rfl)
  obtain ⟨⟨hg, hng0, hng⟩, ⟨hm, hnm⟩, ⟨hc, hnc⟩, ⟨ht1, htb⟩, ⟨hpa, hpab⟩, hpar, hgr, hTK, htk⟩ := id hR
  refine g_aload_n hB 2 dL_law_1428 rfl rfl ?_
  refine g_aload_n hB 0 dL_law_1429 rfl rfl ?_
  refine g_iload hB 4 dL_law_1430 rfl ?_
  refine g_iconst hB (nI 1) dL_law_1432 rfl ?_
  refine g_iadd hB dL_law_1433 ?_
  refine g_top (nI (i + 1)) (nI_add _ _) ?_
  refine g_sld hB hX hbl hbA (i + 1) (by omega) (by omega) dL_law_1434 ?_
  refine g_aload_n hB 0 dL_law_1435 rfl rfl ?_
  refine g_iload hB 4 dL_law_1436 rfl ?_
  refine g_iconst hB (nI 2) dL_law_1438 rfl ?_
  refine g_iadd hB dL_law_1439 ?_
  refine g_top (nI (i + 2)) (nI_add _ _) ?_
  refine g_sld hB hX hbl hbA (i + 2) (by omega) (by omega) dL_law_1440 ?_
  refine g_aload_n hB 0 dL_law_1441 rfl rfl ?_
  refine g_iload hB 4 dL_law_1442 rfl ?_
  refine g_iconst hB (nI 3) dL_law_1444 rfl ?_
  refine g_iadd hB dL_law_1445 ?_
  refine g_top (nI (i + 3)) (nI_add _ _) ?_
  refine g_sld hB hX hbl hbA (i + 3) (by omega) (by omega) dL_law_1446 ?_
  refine g_callVI hB (c_X6_taken _ (xs (i + 1)) (xs (i + 2)) (xs (i + 3)) ng nm hm hnm hng hpar hgr) k_L_188 rfl yk_X6_taken ⟨Nat.le_of_ble_eq_true rfl, Nat.le_of_ble_eq_true rfl⟩ ⟨(by decide), _, _, _, rfl, rfl, rfl⟩ rfl (Nat.le_of_ble_eq_true rfl) ⟨by show cells + 3 + 0 ≤ 601024; omega, by show slots + 18 + 0 ≤ 7293034; omega⟩ dL_law_1447 ?_
  rintro _ _ ⟨rfl, rfl⟩
  exact g_sub [(0, .ref b), (1, .ref (ad 0 0)), (2, .ref (ad 17 0)), (3, .ref (ad 19 0)), (4, .int (nI i)), (5, .int (nI (taC S (xs (i + 1)) (xs (i + 2)) (xs (i + 3)) nm)))] rfl (tl_taken hB (okr (step_taken h (xs (i + 1)) (xs (i + 2)) (xs (i + 3))) taC3 rTaken9) ⟨by show cells + 3 + 0 ≤ K; omega, hK.2⟩ ⟨by show slots + 18 + 0 ≤ N; omega, hN.2⟩ kk)
end LC
