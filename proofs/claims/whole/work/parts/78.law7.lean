/-! the law: roads of the switch -/
section LC
variable {p : Program} {l : Launch} {e : Env} {s : State} {m : MethodId} {args : Array Value} {below : List Frame} {meth : Method} {c : Code} {D : va_G} {ad : Nat → Nat → Nat} {A : Nat → Prop} {Q : State → Prop} {cells slots : Nat} {ca : Nat → ClassId} {b L : Nat} {xs : Nat → Int32}
theorem tl_runs (hB : MB p s m args meth c cL_law RL 7 D ca SR A) {i K N t mo code : Nat} {v r : Int32} {T : Mem} (hq : OKR code v t mo r T) (hK : cells ≤ K ∧ K ≤ 601024) (hN : slots ≤ N ∧ N ≤ 7293034) (kk : KX p l e s m args below meth c D ad A Q ca b i t mo K N) : G p l e room_1 s m args below meth c D ad A 7 Q cells slots CNT (SH ad ca T) 1518 [(0, .ref b), (1, .ref (ad 0 0)), (2, .ref (ad 17 0)), (3, .ref (ad 19 0)), (4, .int (nI i)), (5, .int (nI code))] [.int r] := by
  refine g_istore hB 6 dL_law_1518 (by decide) ?_
  refine g_aload_n hB 2 dL_law_1520 rfl rfl ?_
  refine g_callVI hB (c_X6_thrown _) k_L_114 rfl yk_X6_thrown ⟨Nat.le_of_ble_eq_true rfl, Nat.le_of_ble_eq_true rfl⟩ ⟨(by decide), _, _, _, rfl, rfl, rfl⟩ rfl (Nat.le_of_ble_eq_true rfl) ⟨by show cells + 0 ≤ 601024; omega, by show slots + 0 ≤ 7293034; omega⟩ dL_law_1521 ?_
  rintro _ _ ⟨rfl, rfl⟩
  obtain ⟨q1, q2, q3, ng', nm', nc', t', pa', rk', mo', q4, q5, q6⟩ := hq
  refine g_top (nI code) q1 ?_
  refine g_iload hB 5 dL_law_1524 rfl ?_
  refine g_icmp_eq hB 1531 dL_law_1526 (by decide) (fun _ => ?_) (fun z => absurd rfl z)
  refine g_iload hB 5 dL_law_1531 rfl ?_
  by_cases hc : code = 0
  · refine g_top (nI 0) (by rw [hc]) ?_
    refine g_if_ne hB 1548 dL_law_1533 (by decide) (fun z => absurd rfl z) (fun _ => ?_)
    refine g_aload_n hB 3 dL_law_1536 rfl rfl ?_
    refine g_iconst hB (nI 0) dL_law_1537 rfl ?_
    refine g_laldE hB 19 0 0 (n := 1) (f := fun j => (T 19 0 j).toInt64) (by decide) rfl (by decide) (by decide) dL_law_1538 ?_
    refine g_iload hB 6 dL_law_1539 rfl ?_
    refine g_i2l hB dL_law_1541 ?_
    refine g_lcmp hB dL_law_1542 ?_
    refine g_top 0 (by show lg_cmp (T 19 0 0).toInt64 r.toInt64 = 0; rw [(q3 hc).2, (q3 hc).1]; exact lg_cmp_self) ?_
    refine g_if_eq hB 1548 dL_law_1543 (by decide) (fun _ => ?_) (fun z => absurd rfl z)
    refine g_goto hB 1923 dL_law_1548 (by decide) ?_
    refine g_widen (k := K) (n := N) (by show _ + 0 ≤ K; omega) (by show _ + 0 ≤ N; omega) ?_
    exact g_sub [(0, .ref b), (1, .ref (ad 0 0)), (2, .ref (ad 17 0)), (3, .ref (ad 19 0)), (4, .int (nI i))] rfl (kk _ _ _ _ _ _ _ _ q4 q5 q6)
  · refine g_if_ne hB 1548 dL_law_1533 (by decide) (fun _ => ?_) (fun z => absurd z (fun w9 => hc ((nI_eq (a := code) (b := 0) (by omega) (by decide)).mp w9)))
    refine g_goto hB 1923 dL_law_1548 (by decide) ?_
    refine g_widen (k := K) (n := N) (by show _ + 0 ≤ K; omega) (by show _ + 0 ≤ N; omega) ?_
    exact g_sub [(0, .ref b), (1, .ref (ad 0 0)), (2, .ref (ad 17 0)), (3, .ref (ad 19 0)), (4, .int (nI i))] rfl (kk _ _ _ _ _ _ _ _ q4 q5 q6)
theorem law_runs (hB : MB p s m args meth c cL_law RL 7 D ca SR A) (hX : va_X b L xs s s.heap) (hbl : b < s.heap.size) (hbA : ¬ A b) (hL : L ≤ 2560) (hl : l.stackTraces = false) {i K N ng nm nc t pa rk mo : Nat} {S : Mem} (h : INV S ng nm nc t pa rk mo) (hi : i + 5 ≤ L) (ht60 : t + 60 < 2 ^ 20) (hmo : mo + 1 < 2 ^ 20) (hK : cells + 4 ≤ K ∧ K ≤ 601024) (hN : slots + 24 ≤ N ∧ N ≤ 7293034) (kk : KX p l e s m args below meth c D ad A Q ca b i t mo K N) : G p l e room_1 s m args below meth c D ad A 7 Q cells slots CNT (SH ad ca S) 1483 [(0, .ref b), (1, .ref (ad 0 0)), (2, .ref (ad 17 0)), (3, .ref (ad 19 0)), (4, .int (nI i))] [] := by
  cases hq : askB (xs (i + 1)) (xs (i + 2)) nm with
  | false =>
    refine g_aload_n hB 1 dL_law_1483 rfl rfl ?_
    refine g_aload_n hB 0 dL_law_1484 rfl rfl ?_
    refine g_iload hB 4 dL_law_1485 rfl ?_
    refine g_iconst hB (nI 1) dL_law_1487 rfl ?_
    refine g_iadd hB dL_law_1488 ?_
    refine g_top (nI (i + 1)) (nI_add _ _) ?_
    refine g_sld hB hX hbl hbA (i + 1) (by omega) (by omega) dL_law_1489 ?_
    refine g_aload_n hB 0 dL_law_1490 rfl rfl ?_
    refine g_iload hB 4 dL_law_1491 rfl ?_
    refine g_iconst hB (nI 2) dL_law_1493 rfl ?_
    refine g_iadd hB dL_law_1494 ?_
    refine g_top (nI (i + 2)) (nI_add _ _) ?_
    refine g_sld hB hX hbl hbA (i + 2) (by omega) (by omega) dL_law_1495 ?_
    refine g_aload_n hB 3 dL_law_1496 rfl rfl ?_
    refine g_callHSI hB (c_L_runs hl S ng nm nc t pa h.1 (xs (i + 1)) (xs (i + 2))) k_L_189 yk_L_runs ⟨Nat.le_of_ble_eq_true rfl, Nat.le_of_ble_eq_true rfl⟩ rfl (Nat.le_of_ble_eq_true rfl) ⟨by show cells + 2 ≤ 601024; omega, by show slots + 12 ≤ 7293034; omega⟩ dL_law_1497 ?_
    rintro _ _ ⟨rfl, rfl⟩
    refine g_istore hB 5 dL_law_1500 (by decide) ?_
    have hR : RI (TT S (r2C (xs (i + 1)) (xs (i + 2)) nm) (uM (ruM S nc (ix (xs (i + 1)))) 19 0 0 (vsh (ruM S nc (ix (xs (i + 1)))) (ix (xs (i + 2)))))) ng nm nc t pa := TT_RI h (ruM_hi (by decide)) (ruM_hi (by decide))
    obtain ⟨⟨hg, hng0, hng⟩, ⟨hm, hnm⟩, ⟨hc, hnc⟩, ⟨ht1, htb⟩, ⟨hpa, hpab⟩, hpar, hgr, hTK, htk⟩ := id hR
    refine g_aload_n hB 2 dL_law_1502 rfl rfl ?_
    refine g_aload_n hB 0 dL_law_1503 rfl rfl ?_
    refine g_iload hB 4 dL_law_1504 rfl ?_
    refine g_iconst hB (nI 1) dL_law_1506 rfl ?_
    refine g_iadd hB dL_law_1507 ?_
    refine g_top (nI (i + 1)) (nI_add _ _) ?_
    refine g_sld hB hX hbl hbA (i + 1) (by omega) (by omega) dL_law_1508 ?_
    refine g_aload_n hB 0 dL_law_1509 rfl rfl ?_
    refine g_iload hB 4 dL_law_1510 rfl ?_
    refine g_iconst hB (nI 2) dL_law_1512 rfl ?_
    refine g_iadd hB dL_law_1513 ?_
    refine g_top (nI (i + 2)) (nI_add _ _) ?_
    refine g_sld hB hX hbl hbA (i + 2) (by omega) (by omega) dL_law_1514 ?_
    have e9 : r2C (xs (i + 1)) (xs (i + 2)) nm = 1 := by
      unfold r2C; unfold askB at hq; revert hq; cases rgB (xs (i + 1)) nm <;> cases rgB (xs (i + 2)) 6 <;> intro hq <;> first | rfl | exact absurd hq (by decide)
    refine g_callVI hB (c_X6_runs_f _ (xs (i + 1)) (xs (i + 2)) nm hm hnm hq) k_L_191 rfl yk_X6_runs ⟨Nat.le_of_ble_eq_true rfl, Nat.le_of_ble_eq_true rfl⟩ ⟨(by decide), _, _, _, rfl, rfl, rfl⟩ rfl (Nat.le_of_ble_eq_true rfl) ⟨by show cells + 2 + 0 ≤ 601024; omega, by show slots + 12 + 0 ≤ 7293034; omega⟩ dL_law_1515 ?_
    rintro _ _ ⟨rfl, rfl⟩
    have ok : OKR (r2C (xs (i + 1)) (xs (i + 2)) nm) (vsh (ruM S nc (ix (xs (i + 1)))) (ix (xs (i + 2)))) t mo (nI 0) (uM (TT S (r2C (xs (i + 1)) (xs (i + 2)) nm) (uM (ruM S nc (ix (xs (i + 1)))) 19 0 0 (vsh (ruM S nc (ix (xs (i + 1)))) (ix (xs (i + 2)))))) 17 0 0 (nI 1)) := by
      rw [e9]
      exact okf h (by decide) (by decide)
    exact g_sub [(0, .ref b), (1, .ref (ad 0 0)), (2, .ref (ad 17 0)), (3, .ref (ad 19 0)), (4, .int (nI i)), (5, .int (nI (r2C (xs (i + 1)) (xs (i + 2)) nm)))] rfl (tl_runs hB (ok) ⟨by show cells + 2 + 0 ≤ K; omega, hK.2⟩ ⟨by show slots + 12 + 0 ≤ N; omega, hN.2⟩ kk)
  | true =>
    refine g_aload_n hB 1 dL_law_1483 rfl rfl ?_
    refine g_aload_n hB 0 dL_law_1484 rfl rfl ?_
    refine g_iload hB 4 dL_law_1485 rfl ?_
    refine g_iconst hB (nI 1) dL_law_1487 rfl ?_
    refine g_iadd hB dL_law_1488 ?_
    refine g_top (nI (i + 1)) (nI_add _ _) ?_
    refine g_sld hB hX hbl hbA (i + 1) (by omega) (by omega) dL_law_1489 ?_
    refine g_aload_n hB 0 dL_law_1490 rfl rfl ?_
    refine g_iload hB 4 dL_law_1491 rfl ?_
    refine g_iconst hB (nI 2) dL_law_1493 rfl ?_
    refine g_iadd hB dL_law_1494 ?_
    refine g_top (nI (i + 2)) (nI_add _ _) ?_
    refine g_sld hB hX hbl hbA (i + 2) (by omega) (by omega) dL_law_1495 ?_
    refine g_aload_n hB 3 dL_law_1496 rfl rfl ?_
    refine g_callHSI hB (c_L_runs hl S ng nm nc t pa h.1 (xs (i + 1)) (xs (i + 2))) k_L_189 yk_L_runs ⟨Nat.le_of_ble_eq_true rfl, Nat.le_of_ble_eq_true rfl⟩ rfl (Nat.le_of_ble_eq_true rfl) ⟨by show cells + 2 ≤ 601024; omega, by show slots + 12 ≤ 7293034; omega⟩ dL_law_1497 ?_
    rintro _ _ ⟨rfl, rfl⟩
    refine g_istore hB 5 dL_law_1500 (by decide) ?_
    have hR : RI (TT S (r2C (xs (i + 1)) (xs (i + 2)) nm) (uM (ruM S nc (ix (xs (i + 1)))) 19 0 0 (vsh (ruM S nc (ix (xs (i + 1)))) (ix (xs (i + 2)))))) ng nm nc t pa := TT_RI h (ruM_hi (by decide)) (ruM_hi (by decide))
    obtain ⟨⟨hg, hng0, hng⟩, ⟨hm, hnm⟩, ⟨hc, hnc⟩, ⟨ht1, htb⟩, ⟨hpa, hpab⟩, hpar, hgr, hTK, htk⟩ := id hR
    refine g_aload_n hB 2 dL_law_1502 rfl rfl ?_
    refine g_aload_n hB 0 dL_law_1503 rfl rfl ?_
    refine g_iload hB 4 dL_law_1504 rfl ?_
    refine g_iconst hB (nI 1) dL_law_1506 rfl ?_
    refine g_iadd hB dL_law_1507 ?_
    refine g_top (nI (i + 1)) (nI_add _ _) ?_
    refine g_sld hB hX hbl hbA (i + 1) (by omega) (by omega) dL_law_1508 ?_
    refine g_aload_n hB 0 dL_law_1509 rfl rfl ?_
    refine g_iload hB 4 dL_law_1510 rfl ?_
    refine g_iconst hB (nI 2) dL_law_1512 rfl ?_
    refine g_iadd hB dL_law_1513 ?_
    refine g_top (nI (i + 2)) (nI_add _ _) ?_
    refine g_sld hB hX hbl hbA (i + 2) (by omega) (by omega) dL_law_1514 ?_
    have hxy : rgB (xs (i + 1)) nm = true ∧ rgB (xs (i + 2)) 6 = true := by unfold askB at hq; exact (Bool.and_eq_true _ _).mp hq
    have e9 : r2C (xs (i + 1)) (xs (i + 2)) nm = 0 := by unfold r2C; rw [hxy.1, hxy.2]; rfl
    obtain ⟨x9, hx9, ex9⟩ := rgB_t hxy.1
    have ix9 : ix (xs (i + 1)) = x9 := by rw [ex9]; exact ix_nI (by omega)
    obtain ⟨y9, hy9, ey9⟩ := rgB_t hxy.2
    have iy9 : ix (xs (i + 2)) = y9 := by rw [ey9]; exact ix_nI (by omega)
    obtain ⟨g9, hg9, hgm9⟩ := hgr x9 hx9
    have hgs : S 18 3 x9 = nI g9 := (congrFun (congrFun (TT_18 (S := S) (M := ruM S nc (ix (xs (i + 1)))) (code := r2C (xs (i + 1)) (xs (i + 2)) nm) (v := vsh (ruM S nc (ix (xs (i + 1)))) (ix (xs (i + 2)))) (ruM_hi (by decide))) 3) x9).symm.trans hgm9
    refine g_st (st' := [.int (nI y9), .int (nI x9), .ref (ad 17 0)]) (by rw [ex9, ey9]) ?_
    refine g_callVI hB (c_X6_runs _ x9 y9 g9 ng nc nm hm hnm hpar hng hg9 hgm9 hc hnc hTK hx9 hy9) k_L_191 rfl yk_X6_runs ⟨Nat.le_of_ble_eq_true rfl, Nat.le_of_ble_eq_true rfl⟩ ⟨(by decide), _, _, _, rfl, rfl, rfl⟩ rfl (Nat.le_of_ble_eq_true rfl) ⟨by show cells + 2 + 0 ≤ 601024; omega, by show slots + 12 + 0 ≤ 7293034; omega⟩ dL_law_1515 ?_
    rintro _ _ ⟨rfl, v9, f9, b9, rfl⟩
    have ok : OKR (r2C (xs (i + 1)) (xs (i + 2)) nm) (vsh (ruM S nc (ix (xs (i + 1)))) (ix (xs (i + 2)))) t mo (runV (uM (TT S (r2C (xs (i + 1)) (xs (i + 2)) nm) (uM (ruM S nc (ix (xs (i + 1)))) 19 0 0 (vsh (ruM S nc (ix (xs (i + 1)))) (ix (xs (i + 2)))))) 17 0 0 (nI 0)) nc x9 g9 y9) (LK (uM (TT S (r2C (xs (i + 1)) (xs (i + 2)) nm) (uM (ruM S nc (ix (xs (i + 1)))) 19 0 0 (vsh (ruM S nc (ix (xs (i + 1)))) (ix (xs (i + 2)))))) 17 0 0 (nI 0)) v9 f9 b9) := by
      rw [e9, ix9, iy9]
      exact ok_runs h hx9 hy9 (by omega) hgs v9 f9 b9
    exact g_sub [(0, .ref b), (1, .ref (ad 0 0)), (2, .ref (ad 17 0)), (3, .ref (ad 19 0)), (4, .int (nI i)), (5, .int (nI (r2C (xs (i + 1)) (xs (i + 2)) nm)))] rfl (tl_runs hB (ok) ⟨by show cells + 2 + 0 ≤ K; omega, hK.2⟩ ⟨by show slots + 12 + 0 ≤ N; omega, hN.2⟩ kk)
theorem tl_layerOf (hB : MB p s m args meth c cL_law RL 7 D ca SR A) {i K N t mo code : Nat} {v r : Int32} {T : Mem} (hq : OKR code v t mo r T) (hK : cells ≤ K ∧ K ≤ 601024) (hN : slots ≤ N ∧ N ≤ 7293034) (kk : KX p l e s m args below meth c D ad A Q ca b i t mo K N) : G p l e room_1 s m args below meth c D ad A 7 Q cells slots CNT (SH ad ca T) 1586 [(0, .ref b), (1, .ref (ad 0 0)), (2, .ref (ad 17 0)), (3, .ref (ad 19 0)), (4, .int (nI i)), (5, .int (nI code))] [.int r] := by
  refine g_istore hB 6 dL_law_1586 (by decide) ?_
  refine g_aload_n hB 2 dL_law_1588 rfl rfl ?_
  refine g_callVI hB (c_X6_thrown _) k_L_114 rfl yk_X6_thrown ⟨Nat.le_of_ble_eq_true rfl, Nat.le_of_ble_eq_true rfl⟩ ⟨(by decide), _, _, _, rfl, rfl, rfl⟩ rfl (Nat.le_of_ble_eq_true rfl) ⟨by show cells + 0 ≤ 601024; omega, by show slots + 0 ≤ 7293034; omega⟩ dL_law_1589 ?_
  rintro _ _ ⟨rfl, rfl⟩
  obtain ⟨q1, q2, q3, ng', nm', nc', t', pa', rk', mo', q4, q5, q6⟩ := hq
  refine g_top (nI code) q1 ?_
  refine g_iload hB 5 dL_law_1592 rfl ?_
  refine g_icmp_eq hB 1599 dL_law_1594 (by decide) (fun _ => ?_) (fun z => absurd rfl z)
  refine g_iload hB 5 dL_law_1599 rfl ?_
  by_cases hc : code = 0
  · refine g_top (nI 0) (by rw [hc]) ?_
    refine g_if_ne hB 1616 dL_law_1601 (by decide) (fun z => absurd rfl z) (fun _ => ?_)
    refine g_aload_n hB 3 dL_law_1604 rfl rfl ?_
    refine g_iconst hB (nI 0) dL_law_1605 rfl ?_
    refine g_laldE hB 19 0 0 (n := 1) (f := fun j => (T 19 0 j).toInt64) (by decide) rfl (by decide) (by decide) dL_law_1606 ?_
    refine g_iload hB 6 dL_law_1607 rfl ?_
    refine g_i2l hB dL_law_1609 ?_
    refine g_lcmp hB dL_law_1610 ?_
    refine g_top 0 (by show lg_cmp (T 19 0 0).toInt64 r.toInt64 = 0; rw [(q3 hc).2, (q3 hc).1]; exact lg_cmp_self) ?_
    refine g_if_eq hB 1616 dL_law_1611 (by decide) (fun _ => ?_) (fun z => absurd rfl z)
    refine g_goto hB 1923 dL_law_1616 (by decide) ?_
    refine g_widen (k := K) (n := N) (by show _ + 0 ≤ K; omega) (by show _ + 0 ≤ N; omega) ?_
    exact g_sub [(0, .ref b), (1, .ref (ad 0 0)), (2, .ref (ad 17 0)), (3, .ref (ad 19 0)), (4, .int (nI i))] rfl (kk _ _ _ _ _ _ _ _ q4 q5 q6)
  · refine g_if_ne hB 1616 dL_law_1601 (by decide) (fun _ => ?_) (fun z => absurd z (fun w9 => hc ((nI_eq (a := code) (b := 0) (by omega) (by decide)).mp w9)))
    refine g_goto hB 1923 dL_law_1616 (by decide) ?_
    refine g_widen (k := K) (n := N) (by show _ + 0 ≤ K; omega) (by show _ + 0 ≤ N; omega) ?_
    exact g_sub [(0, .ref b), (1, .ref (ad 0 0)), (2, .ref (ad 17 0)), (3, .ref (ad 19 0)), (4, .int (nI i))] rfl (kk _ _ _ _ _ _ _ _ q4 q5 q6)
theorem law_layerOf (hB : MB p s m args meth c cL_law RL 7 D ca SR A) (hX : va_X b L xs s s.heap) (hbl : b < s.heap.size) (hbA : ¬ A b) (hL : L ≤ 2560) (hl : l.stackTraces = false) {i K N ng nm nc t pa rk mo : Nat} {S : Mem} (h : INV S ng nm nc t pa rk mo) (hi : i + 5 ≤ L) (ht60 : t + 60 < 2 ^ 20) (hmo : mo + 1 < 2 ^ 20) (hK : cells + 4 ≤ K ∧ K ≤ 601024) (hN : slots + 24 ≤ N ∧ N ≤ 7293034) (kk : KX p l e s m args below meth c D ad A Q ca b i t mo K N) : G p l e room_1 s m args below meth c D ad A 7 Q cells slots CNT (SH ad ca S) 1551 [(0, .ref b), (1, .ref (ad 0 0)), (2, .ref (ad 17 0)), (3, .ref (ad 19 0)), (4, .int (nI i))] [] := by
  cases hq : askB (xs (i + 1)) (xs (i + 2)) nm with
  | false =>
    refine g_aload_n hB 1 dL_law_1551 rfl rfl ?_
    refine g_aload_n hB 0 dL_law_1552 rfl rfl ?_
    refine g_iload hB 4 dL_law_1553 rfl ?_
    refine g_iconst hB (nI 1) dL_law_1555 rfl ?_
    refine g_iadd hB dL_law_1556 ?_
    refine g_top (nI (i + 1)) (nI_add _ _) ?_
    refine g_sld hB hX hbl hbA (i + 1) (by omega) (by omega) dL_law_1557 ?_
    refine g_aload_n hB 0 dL_law_1558 rfl rfl ?_
    refine g_iload hB 4 dL_law_1559 rfl ?_
    refine g_iconst hB (nI 2) dL_law_1561 rfl ?_
    refine g_iadd hB dL_law_1562 ?_
    refine g_top (nI (i + 2)) (nI_add _ _) ?_
    refine g_sld hB hX hbl hbA (i + 2) (by omega) (by omega) dL_law_1563 ?_
    refine g_aload_n hB 3 dL_law_1564 rfl rfl ?_
    refine g_callHSI hB (c_L_layerOf hl S ng nm nc t pa h.1 (xs (i + 1)) (xs (i + 2))) k_L_192 yk_L_layerOf ⟨Nat.le_of_ble_eq_true rfl, Nat.le_of_ble_eq_true rfl⟩ rfl (Nat.le_of_ble_eq_true rfl) ⟨by show cells + 2 ≤ 601024; omega, by show slots + 12 ≤ 7293034; omega⟩ dL_law_1565 ?_
    rintro _ _ ⟨rfl, rfl⟩
    refine g_istore hB 5 dL_law_1568 (by decide) ?_
    have hR : RI (TT S (r2C (xs (i + 1)) (xs (i + 2)) nm) (uM (ruM S nc (ix (xs (i + 1)))) 19 0 0 (loV (ruM S nc (ix (xs (i + 1)))) (ix (xs (i + 2)))))) ng nm nc t pa := TT_RI h (ruM_hi (by decide)) (ruM_hi (by decide))
    obtain ⟨⟨hg, hng0, hng⟩, ⟨hm, hnm⟩, ⟨hc, hnc⟩, ⟨ht1, htb⟩, ⟨hpa, hpab⟩, hpar, hgr, hTK, htk⟩ := id hR
    refine g_aload_n hB 2 dL_law_1570 rfl rfl ?_
    refine g_aload_n hB 0 dL_law_1571 rfl rfl ?_
    refine g_iload hB 4 dL_law_1572 rfl ?_
    refine g_iconst hB (nI 1) dL_law_1574 rfl ?_
    refine g_iadd hB dL_law_1575 ?_
    refine g_top (nI (i + 1)) (nI_add _ _) ?_
    refine g_sld hB hX hbl hbA (i + 1) (by omega) (by omega) dL_law_1576 ?_
    refine g_aload_n hB 0 dL_law_1577 rfl rfl ?_
    refine g_iload hB 4 dL_law_1578 rfl ?_
    refine g_iconst hB (nI 2) dL_law_1580 rfl ?_
    refine g_iadd hB dL_law_1581 ?_
    refine g_top (nI (i + 2)) (nI_add _ _) ?_
    refine g_sld hB hX hbl hbA (i + 2) (by omega) (by omega) dL_law_1582 ?_
    have e9 : r2C (xs (i + 1)) (xs (i + 2)) nm = 1 := by
      unfold r2C; unfold askB at hq; revert hq; cases rgB (xs (i + 1)) nm <;> cases rgB (xs (i + 2)) 6 <;> intro hq <;> first | rfl | exact absurd hq (by decide)
    refine g_callVI hB (c_X6_layerOf_f _ (xs (i + 1)) (xs (i + 2)) nm hm hnm hq) k_L_194 rfl yk_X6_layerOf ⟨Nat.le_of_ble_eq_true rfl, Nat.le_of_ble_eq_true rfl⟩ ⟨(by decide), _, _, _, rfl, rfl, rfl⟩ rfl (Nat.le_of_ble_eq_true rfl) ⟨by show cells + 2 + 0 ≤ 601024; omega, by show slots + 12 + 0 ≤ 7293034; omega⟩ dL_law_1583 ?_
    rintro _ _ ⟨rfl, rfl⟩
    have ok : OKR (r2C (xs (i + 1)) (xs (i + 2)) nm) (loV (ruM S nc (ix (xs (i + 1)))) (ix (xs (i + 2)))) t mo (nI 0) (uM (TT S (r2C (xs (i + 1)) (xs (i + 2)) nm) (uM (ruM S nc (ix (xs (i + 1)))) 19 0 0 (loV (ruM S nc (ix (xs (i + 1)))) (ix (xs (i + 2)))))) 17 0 0 (nI 1)) := by
      rw [e9]
      exact okf h (by decide) (by decide)
    exact g_sub [(0, .ref b), (1, .ref (ad 0 0)), (2, .ref (ad 17 0)), (3, .ref (ad 19 0)), (4, .int (nI i)), (5, .int (nI (r2C (xs (i + 1)) (xs (i + 2)) nm)))] rfl (tl_layerOf hB (ok) ⟨by show cells + 2 + 0 ≤ K; omega, hK.2⟩ ⟨by show slots + 12 + 0 ≤ N; omega, hN.2⟩ kk)
  | true =>
    refine g_aload_n hB 1 dL_law_1551 rfl rfl ?_
    refine g_aload_n hB 0 dL_law_1552 rfl rfl ?_
    refine g_iload hB 4 dL_law_1553 rfl ?_
    refine g_iconst hB (nI 1) dL_law_1555 rfl ?_
    refine g_iadd hB dL_law_1556 ?_
    refine g_top (nI (i + 1)) (nI_add _ _) ?_
    refine g_sld hB hX hbl hbA (i + 1) (by omega) (by omega) dL_law_1557 ?_
    refine g_aload_n hB 0 dL_law_1558 rfl rfl ?_
    refine g_iload hB 4 dL_law_1559 rfl ?_
    refine g_iconst hB (nI 2) dL_law_1561 rfl ?_
    refine g_iadd hB dL_law_1562 ?_
    refine g_top (nI (i + 2)) (nI_add _ _) ?_
    refine g_sld hB hX hbl hbA (i + 2) (by omega) (by omega) dL_law_1563 ?_
    refine g_aload_n hB 3 dL_law_1564 rfl rfl ?_
    refine g_callHSI hB (c_L_layerOf hl S ng nm nc t pa h.1 (xs (i + 1)) (xs (i + 2))) k_L_192 yk_L_layerOf ⟨Nat.le_of_ble_eq_true rfl, Nat.le_of_ble_eq_true rfl⟩ rfl (Nat.le_of_ble_eq_true rfl) ⟨by show cells + 2 ≤ 601024; omega, by show slots + 12 ≤ 7293034; omega⟩ dL_law_1565 ?_
    rintro _ _ ⟨rfl, rfl⟩
    refine g_istore hB 5 dL_law_1568 (by decide) ?_
    have hR : RI (TT S (r2C (xs (i + 1)) (xs (i + 2)) nm) (uM (ruM S nc (ix (xs (i + 1)))) 19 0 0 (loV (ruM S nc (ix (xs (i + 1)))) (ix (xs (i + 2)))))) ng nm nc t pa := TT_RI h (ruM_hi (by decide)) (ruM_hi (by decide))
    obtain ⟨⟨hg, hng0, hng⟩, ⟨hm, hnm⟩, ⟨hc, hnc⟩, ⟨ht1, htb⟩, ⟨hpa, hpab⟩, hpar, hgr, hTK, htk⟩ := id hR
    refine g_aload_n hB 2 dL_law_1570 rfl rfl ?_
    refine g_aload_n hB 0 dL_law_1571 rfl rfl ?_
    refine g_iload hB 4 dL_law_1572 rfl ?_
    refine g_iconst hB (nI 1) dL_law_1574 rfl ?_
    refine g_iadd hB dL_law_1575 ?_
    refine g_top (nI (i + 1)) (nI_add _ _) ?_
    refine g_sld hB hX hbl hbA (i + 1) (by omega) (by omega) dL_law_1576 ?_
    refine g_aload_n hB 0 dL_law_1577 rfl rfl ?_
    refine g_iload hB 4 dL_law_1578 rfl ?_
    refine g_iconst hB (nI 2) dL_law_1580 rfl ?_
    refine g_iadd hB dL_law_1581 ?_
    refine g_top (nI (i + 2)) (nI_add _ _) ?_
    refine g_sld hB hX hbl hbA (i + 2) (by omega) (by omega) dL_law_1582 ?_
    have hxy : rgB (xs (i + 1)) nm = true ∧ rgB (xs (i + 2)) 6 = true := by unfold askB at hq; exact (Bool.and_eq_true _ _).mp hq
    have e9 : r2C (xs (i + 1)) (xs (i + 2)) nm = 0 := by unfold r2C; rw [hxy.1, hxy.2]; rfl
    obtain ⟨x9, hx9, ex9⟩ := rgB_t hxy.1
    have ix9 : ix (xs (i + 1)) = x9 := by rw [ex9]; exact ix_nI (by omega)
    obtain ⟨y9, hy9, ey9⟩ := rgB_t hxy.2
    have iy9 : ix (xs (i + 2)) = y9 := by rw [ey9]; exact ix_nI (by omega)
    obtain ⟨g9, hg9, hgm9⟩ := hgr x9 hx9
    have hgs : S 18 3 x9 = nI g9 := (congrFun (congrFun (TT_18 (S := S) (M := ruM S nc (ix (xs (i + 1)))) (code := r2C (xs (i + 1)) (xs (i + 2)) nm) (v := loV (ruM S nc (ix (xs (i + 1)))) (ix (xs (i + 2)))) (ruM_hi (by decide))) 3) x9).symm.trans hgm9
    refine g_st (st' := [.int (nI y9), .int (nI x9), .ref (ad 17 0)]) (by rw [ex9, ey9]) ?_
    refine g_callVI hB (c_X6_layerOf _ x9 y9 g9 ng nc nm hm hnm hpar hng hg9 hgm9 hc hnc hTK hx9 hy9) k_L_194 rfl yk_X6_layerOf ⟨Nat.le_of_ble_eq_true rfl, Nat.le_of_ble_eq_true rfl⟩ ⟨(by decide), _, _, _, rfl, rfl, rfl⟩ rfl (Nat.le_of_ble_eq_true rfl) ⟨by show cells + 2 + 0 ≤ 601024; omega, by show slots + 12 + 0 ≤ 7293034; omega⟩ dL_law_1583 ?_
    rintro _ _ ⟨rfl, v9, f9, b9, rfl⟩
    have ok : OKR (r2C (xs (i + 1)) (xs (i + 2)) nm) (loV (ruM S nc (ix (xs (i + 1)))) (ix (xs (i + 2)))) t mo (runL (uM (TT S (r2C (xs (i + 1)) (xs (i + 2)) nm) (uM (ruM S nc (ix (xs (i + 1)))) 19 0 0 (loV (ruM S nc (ix (xs (i + 1)))) (ix (xs (i + 2)))))) 17 0 0 (nI 0)) nc x9 g9 y9) (LK (uM (TT S (r2C (xs (i + 1)) (xs (i + 2)) nm) (uM (ruM S nc (ix (xs (i + 1)))) 19 0 0 (loV (ruM S nc (ix (xs (i + 1)))) (ix (xs (i + 2)))))) 17 0 0 (nI 0)) v9 f9 b9) := by
      rw [e9, ix9, iy9]
      exact ok_layerOf h hx9 hy9 (by omega) hgs v9 f9 b9
    exact g_sub [(0, .ref b), (1, .ref (ad 0 0)), (2, .ref (ad 17 0)), (3, .ref (ad 19 0)), (4, .int (nI i)), (5, .int (nI (r2C (xs (i + 1)) (xs (i + 2)) nm)))] rfl (tl_layerOf hB (ok) ⟨by show cells + 2 + 0 ≤ K; omega, hK.2⟩ ⟨by show slots + 12 + 0 ≤ N; omega, hN.2⟩ kk)
theorem tl_due (hB : MB p s m args meth c cL_law RL 7 D ca SR A) {i K N t mo code : Nat} {v r : Int32} {T : Mem} (hq : OKR code v t mo r T) (hK : cells ≤ K ∧ K ≤ 601024) (hN : slots ≤ N ∧ N ≤ 7293034) (kk : KX p l e s m args below meth c D ad A Q ca b i t mo K N) : G p l e room_1 s m args below meth c D ad A 7 Q cells slots CNT (SH ad ca T) 1654 [(0, .ref b), (1, .ref (ad 0 0)), (2, .ref (ad 17 0)), (3, .ref (ad 19 0)), (4, .int (nI i)), (5, .int (nI code))] [.int r] := by
  refine g_istore hB 6 dL_law_1654 (by decide) ?_
  refine g_aload_n hB 2 dL_law_1656 rfl rfl ?_
  refine g_callVI hB (c_X6_thrown _) k_L_114 rfl yk_X6_thrown ⟨Nat.le_of_ble_eq_true rfl, Nat.le_of_ble_eq_true rfl⟩ ⟨(by decide), _, _, _, rfl, rfl, rfl⟩ rfl (Nat.le_of_ble_eq_true rfl) ⟨by show cells + 0 ≤ 601024; omega, by show slots + 0 ≤ 7293034; omega⟩ dL_law_1657 ?_
  rintro _ _ ⟨rfl, rfl⟩
  obtain ⟨q1, q2, q3, ng', nm', nc', t', pa', rk', mo', q4, q5, q6⟩ := hq
  refine g_top (nI code) q1 ?_
  refine g_iload hB 5 dL_law_1660 rfl ?_
  refine g_icmp_eq hB 1667 dL_law_1662 (by decide) (fun _ => ?_) (fun z => absurd rfl z)
  refine g_iload hB 5 dL_law_1667 rfl ?_
  by_cases hc : code = 0
  · refine g_top (nI 0) (by rw [hc]) ?_
    refine g_if_ne hB 1684 dL_law_1669 (by decide) (fun z => absurd rfl z) (fun _ => ?_)
    refine g_aload_n hB 3 dL_law_1672 rfl rfl ?_
    refine g_iconst hB (nI 0) dL_law_1673 rfl ?_
    refine g_laldE hB 19 0 0 (n := 1) (f := fun j => (T 19 0 j).toInt64) (by decide) rfl (by decide) (by decide) dL_law_1674 ?_
    refine g_iload hB 6 dL_law_1675 rfl ?_
    refine g_i2l hB dL_law_1677 ?_
    refine g_lcmp hB dL_law_1678 ?_
    refine g_top 0 (by show lg_cmp (T 19 0 0).toInt64 r.toInt64 = 0; rw [(q3 hc).2, (q3 hc).1]; exact lg_cmp_self) ?_
    refine g_if_eq hB 1684 dL_law_1679 (by decide) (fun _ => ?_) (fun z => absurd rfl z)
    refine g_goto hB 1923 dL_law_1684 (by decide) ?_
    refine g_widen (k := K) (n := N) (by show _ + 0 ≤ K; omega) (by show _ + 0 ≤ N; omega) ?_
    exact g_sub [(0, .ref b), (1, .ref (ad 0 0)), (2, .ref (ad 17 0)), (3, .ref (ad 19 0)), (4, .int (nI i))] rfl (kk _ _ _ _ _ _ _ _ q4 q5 q6)
  · refine g_if_ne hB 1684 dL_law_1669 (by decide) (fun _ => ?_) (fun z => absurd z (fun w9 => hc ((nI_eq (a := code) (b := 0) (by omega) (by decide)).mp w9)))
    refine g_goto hB 1923 dL_law_1684 (by decide) ?_
    refine g_widen (k := K) (n := N) (by show _ + 0 ≤ K; omega) (by show _ + 0 ≤ N; omega) ?_
    exact g_sub [(0, .ref b), (1, .ref (ad 0 0)), (2, .ref (ad 17 0)), (3, .ref (ad 19 0)), (4, .int (nI i))] rfl (kk _ _ _ _ _ _ _ _ q4 q5 q6)
theorem law_due (hB : MB p s m args meth c cL_law RL 7 D ca SR A) (hX : va_X b L xs s s.heap) (hbl : b < s.heap.size) (hbA : ¬ A b) (hL : L ≤ 2560) (hl : l.stackTraces = false) {i K N ng nm nc t pa rk mo : Nat} {S : Mem} (h : INV S ng nm nc t pa rk mo) (hi : i + 5 ≤ L) (ht60 : t + 60 < 2 ^ 20) (hmo : mo + 1 < 2 ^ 20) (hK : cells + 4 ≤ K ∧ K ≤ 601024) (hN : slots + 24 ≤ N ∧ N ≤ 7293034) (kk : KX p l e s m args below meth c D ad A Q ca b i t mo K N) : G p l e room_1 s m args below meth c D ad A 7 Q cells slots CNT (SH ad ca S) 1619 [(0, .ref b), (1, .ref (ad 0 0)), (2, .ref (ad 17 0)), (3, .ref (ad 19 0)), (4, .int (nI i))] [] := by
  cases hq : askB (xs (i + 1)) (xs (i + 2)) nm with
  | false =>
    refine g_aload_n hB 1 dL_law_1619 rfl rfl ?_
    refine g_aload_n hB 0 dL_law_1620 rfl rfl ?_
    refine g_iload hB 4 dL_law_1621 rfl ?_
    refine g_iconst hB (nI 1) dL_law_1623 rfl ?_
    refine g_iadd hB dL_law_1624 ?_
    refine g_top (nI (i + 1)) (nI_add _ _) ?_
    refine g_sld hB hX hbl hbA (i + 1) (by omega) (by omega) dL_law_1625 ?_
    refine g_aload_n hB 0 dL_law_1626 rfl rfl ?_
    refine g_iload hB 4 dL_law_1627 rfl ?_
    refine g_iconst hB (nI 2) dL_law_1629 rfl ?_
    refine g_iadd hB dL_law_1630 ?_
    refine g_top (nI (i + 2)) (nI_add _ _) ?_
    refine g_sld hB hX hbl hbA (i + 2) (by omega) (by omega) dL_law_1631 ?_
    refine g_aload_n hB 3 dL_law_1632 rfl rfl ?_
    refine g_callHSI hB (c_L_due hl S ng nm nc t pa h.1 (xs (i + 1)) (xs (i + 2))) k_L_195 yk_L_due ⟨Nat.le_of_ble_eq_true rfl, Nat.le_of_ble_eq_true rfl⟩ rfl (Nat.le_of_ble_eq_true rfl) ⟨by show cells + 2 ≤ 601024; omega, by show slots + 12 ≤ 7293034; omega⟩ dL_law_1633 ?_
    rintro _ _ ⟨rfl, rfl⟩
    refine g_istore hB 5 dL_law_1636 (by decide) ?_
    have hR : RI (TT S (r2C (xs (i + 1)) (xs (i + 2)) nm) (uM (duM S nc (ix (xs (i + 1)))) 19 0 0 (vsh (duM S nc (ix (xs (i + 1)))) (ix (xs (i + 2)))))) ng nm nc t pa := TT_RI h (duM_hi (by decide)) (duM_hi (by decide))
    obtain ⟨⟨hg, hng0, hng⟩, ⟨hm, hnm⟩, ⟨hc, hnc⟩, ⟨ht1, htb⟩, ⟨hpa, hpab⟩, hpar, hgr, hTK, htk⟩ := id hR
    refine g_aload_n hB 2 dL_law_1638 rfl rfl ?_
    refine g_aload_n hB 0 dL_law_1639 rfl rfl ?_
    refine g_iload hB 4 dL_law_1640 rfl ?_
    refine g_iconst hB (nI 1) dL_law_1642 rfl ?_
    refine g_iadd hB dL_law_1643 ?_
    refine g_top (nI (i + 1)) (nI_add _ _) ?_
    refine g_sld hB hX hbl hbA (i + 1) (by omega) (by omega) dL_law_1644 ?_
    refine g_aload_n hB 0 dL_law_1645 rfl rfl ?_
    refine g_iload hB 4 dL_law_1646 rfl ?_
    refine g_iconst hB (nI 2) dL_law_1648 rfl ?_
    refine g_iadd hB dL_law_1649 ?_
    refine g_top (nI (i + 2)) (nI_add _ _) ?_
    refine g_sld hB hX hbl hbA (i + 2) (by omega) (by omega) dL_law_1650 ?_
    have e9 : r2C (xs (i + 1)) (xs (i + 2)) nm = 1 := by
      unfold r2C; unfold askB at hq; revert hq; cases rgB (xs (i + 1)) nm <;> cases rgB (xs (i + 2)) 6 <;> intro hq <;> first | rfl | exact absurd hq (by decide)
    refine g_callVI hB (c_X6_due_f _ (xs (i + 1)) (xs (i + 2)) nm hm hnm hq) k_L_197 rfl yk_X6_due ⟨Nat.le_of_ble_eq_true rfl, Nat.le_of_ble_eq_true rfl⟩ ⟨(by decide), _, _, _, rfl, rfl, rfl⟩ rfl (Nat.le_of_ble_eq_true rfl) ⟨by show cells + 2 + 0 ≤ 601024; omega, by show slots + 12 + 0 ≤ 7293034; omega⟩ dL_law_1651 ?_
    rintro _ _ ⟨rfl, rfl⟩
    have ok : OKR (r2C (xs (i + 1)) (xs (i + 2)) nm) (vsh (duM S nc (ix (xs (i + 1)))) (ix (xs (i + 2)))) t mo (nI 0) (uM (TT S (r2C (xs (i + 1)) (xs (i + 2)) nm) (uM (duM S nc (ix (xs (i + 1)))) 19 0 0 (vsh (duM S nc (ix (xs (i + 1)))) (ix (xs (i + 2)))))) 17 0 0 (nI 1)) := by
      rw [e9]
      exact okf h (by decide) (by decide)
    exact g_sub [(0, .ref b), (1, .ref (ad 0 0)), (2, .ref (ad 17 0)), (3, .ref (ad 19 0)), (4, .int (nI i)), (5, .int (nI (r2C (xs (i + 1)) (xs (i + 2)) nm)))] rfl (tl_due hB (ok) ⟨by show cells + 2 + 0 ≤ K; omega, hK.2⟩ ⟨by show slots + 12 + 0 ≤ N; omega, hN.2⟩ kk)
  | true =>
    refine g_aload_n hB 1 dL_law_1619 rfl rfl ?_
    refine g_aload_n hB 0 dL_law_1620 rfl rfl ?_
    refine g_iload hB 4 dL_law_1621 rfl ?_
    refine g_iconst hB (nI 1) dL_law_1623 rfl ?_
    refine g_iadd hB dL_law_1624 ?_
    refine g_top (nI (i + 1)) (nI_add _ _) ?_
    refine g_sld hB hX hbl hbA (i + 1) (by omega) (by omega) dL_law_1625 ?_
    refine g_aload_n hB 0 dL_law_1626 rfl rfl ?_
    refine g_iload hB 4 dL_law_1627 rfl ?_
    refine g_iconst hB (nI 2) dL_law_1629 rfl ?_
    refine g_iadd hB dL_law_1630 ?_
    refine g_top (nI (i + 2)) (nI_add _ _) ?_
    refine g_sld hB hX hbl hbA (i + 2) (by omega) (by omega) dL_law_1631 ?_
    refine g_aload_n hB 3 dL_law_1632 rfl rfl ?_
    refine g_callHSI hB (c_L_due hl S ng nm nc t pa h.1 (xs (i + 1)) (xs (i + 2))) k_L_195 yk_L_due ⟨Nat.le_of_ble_eq_true rfl, Nat.le_of_ble_eq_true rfl⟩ rfl (Nat.le_of_ble_eq_true rfl) ⟨by show cells + 2 ≤ 601024; omega, by show slots + 12 ≤ 7293034; omega⟩ dL_law_1633 ?_
    rintro _ _ ⟨rfl, rfl⟩
    refine g_istore hB 5 dL_law_1636 (by decide) ?_
    have hR : RI (TT S (r2C (xs (i + 1)) (xs (i + 2)) nm) (uM (duM S nc (ix (xs (i + 1)))) 19 0 0 (vsh (duM S nc (ix (xs (i + 1)))) (ix (xs (i + 2)))))) ng nm nc t pa := TT_RI h (duM_hi (by decide)) (duM_hi (by decide))
    obtain ⟨⟨hg, hng0, hng⟩, ⟨hm, hnm⟩, ⟨hc, hnc⟩, ⟨ht1, htb⟩, ⟨hpa, hpab⟩, hpar, hgr, hTK, htk⟩ := id hR
    refine g_aload_n hB 2 dL_law_1638 rfl rfl ?_
    refine g_aload_n hB 0 dL_law_1639 rfl rfl ?_
    refine g_iload hB 4 dL_law_1640 rfl ?_
    refine g_iconst hB (nI 1) dL_law_1642 rfl ?_
    refine g_iadd hB dL_law_1643 ?_
    refine g_top (nI (i + 1)) (nI_add _ _) ?_
    refine g_sld hB hX hbl hbA (i + 1) (by omega) (by omega) dL_law_1644 ?_
    refine g_aload_n hB 0 dL_law_1645 rfl rfl ?_
    refine g_iload hB 4 dL_law_1646 rfl ?_
    refine g_iconst hB (nI 2) dL_law_1648 rfl ?_
    refine g_iadd hB dL_law_1649 ?_
    refine g_top (nI (i + 2)) (nI_add _ _) ?_
    refine g_sld hB hX hbl hbA (i + 2) (by omega) (by omega) dL_law_1650 ?_
    have hxy : rgB (xs (i + 1)) nm = true ∧ rgB (xs (i + 2)) 6 = true := by unfold askB at hq; exact (Bool.and_eq_true _ _).mp hq
    have e9 : r2C (xs (i + 1)) (xs (i + 2)) nm = 0 := by unfold r2C; rw [hxy.1, hxy.2]; rfl
    obtain ⟨x9, hx9, ex9⟩ := rgB_t hxy.1
    have ix9 : ix (xs (i + 1)) = x9 := by rw [ex9]; exact ix_nI (by omega)
    obtain ⟨y9, hy9, ey9⟩ := rgB_t hxy.2
    have iy9 : ix (xs (i + 2)) = y9 := by rw [ey9]; exact ix_nI (by omega)
    obtain ⟨g9, hg9, hgm9⟩ := hgr x9 hx9
    have hgs : S 18 3 x9 = nI g9 := (congrFun (congrFun (TT_18 (S := S) (M := duM S nc (ix (xs (i + 1)))) (code := r2C (xs (i + 1)) (xs (i + 2)) nm) (v := vsh (duM S nc (ix (xs (i + 1)))) (ix (xs (i + 2)))) (duM_hi (by decide))) 3) x9).symm.trans hgm9
    refine g_st (st' := [.int (nI y9), .int (nI x9), .ref (ad 17 0)]) (by rw [ex9, ey9]) ?_
    refine g_callVI hB (c_X6_due _ x9 y9 g9 ng nc nm hm hnm hpar hng hg9 hgm9 hc hnc hTK hx9 hy9) k_L_197 rfl yk_X6_due ⟨Nat.le_of_ble_eq_true rfl, Nat.le_of_ble_eq_true rfl⟩ ⟨(by decide), _, _, _, rfl, rfl, rfl⟩ rfl (Nat.le_of_ble_eq_true rfl) ⟨by show cells + 2 + 0 ≤ 601024; omega, by show slots + 12 + 0 ≤ 7293034; omega⟩ dL_law_1651 ?_
    rintro _ _ ⟨rfl, v9, f9, b9, rfl⟩
    have ok : OKR (r2C (xs (i + 1)) (xs (i + 2)) nm) (vsh (duM S nc (ix (xs (i + 1)))) (ix (xs (i + 2)))) t mo (dueV (uM (TT S (r2C (xs (i + 1)) (xs (i + 2)) nm) (uM (duM S nc (ix (xs (i + 1)))) 19 0 0 (vsh (duM S nc (ix (xs (i + 1)))) (ix (xs (i + 2)))))) 17 0 0 (nI 0)) nc x9 g9 y9) (LK (uM (TT S (r2C (xs (i + 1)) (xs (i + 2)) nm) (uM (duM S nc (ix (xs (i + 1)))) 19 0 0 (vsh (duM S nc (ix (xs (i + 1)))) (ix (xs (i + 2)))))) 17 0 0 (nI 0)) v9 f9 b9) := by
      rw [e9, ix9, iy9]
      exact ok_due h hx9 hy9 (by omega) hgs v9 f9 b9
    exact g_sub [(0, .ref b), (1, .ref (ad 0 0)), (2, .ref (ad 17 0)), (3, .ref (ad 19 0)), (4, .int (nI i)), (5, .int (nI (r2C (xs (i + 1)) (xs (i + 2)) nm)))] rfl (tl_due hB (ok) ⟨by show cells + 2 + 0 ≤ K; omega, hK.2⟩ ⟨by show slots + 12 + 0 ≤ N; omega, hN.2⟩ kk)
theorem tl_dueAnew (hB : MB p s m args meth c cL_law RL 7 D ca SR A) {i K N t mo code : Nat} {v r : Int32} {T : Mem} (hq : OKR code v t mo r T) (hK : cells ≤ K ∧ K ≤ 601024) (hN : slots ≤ N ∧ N ≤ 7293034) (kk : KX p l e s m args below meth c D ad A Q ca b i t mo K N) : G p l e room_1 s m args below meth c D ad A 7 Q cells slots CNT (SH ad ca T) 1722 [(0, .ref b), (1, .ref (ad 0 0)), (2, .ref (ad 17 0)), (3, .ref (ad 19 0)), (4, .int (nI i)), (5, .int (nI code))] [.int r] := by
  refine g_istore hB 6 dL_law_1722 (by decide) ?_
  refine g_aload_n hB 2 dL_law_1724 rfl rfl ?_
  refine g_callVI hB (c_X6_thrown _) k_L_114 rfl yk_X6_thrown ⟨Nat.le_of_ble_eq_true rfl, Nat.le_of_ble_eq_true rfl⟩ ⟨(by decide), _, _, _, rfl, rfl, rfl⟩ rfl (Nat.le_of_ble_eq_true rfl) ⟨by show cells + 0 ≤ 601024; omega, by show slots + 0 ≤ 7293034; omega⟩ dL_law_1725 ?_
  rintro _ _ ⟨rfl, rfl⟩
  obtain ⟨q1, q2, q3, ng', nm', nc', t', pa', rk', mo', q4, q5, q6⟩ := hq
  refine g_top (nI code) q1 ?_
  refine g_iload hB 5 dL_law_1728 rfl ?_
  refine g_icmp_eq hB 1735 dL_law_1730 (by decide) (fun _ => ?_) (fun z => absurd rfl z)
  refine g_iload hB 5 dL_law_1735 rfl ?_
  by_cases hc : code = 0
  · refine g_top (nI 0) (by rw [hc]) ?_
    refine g_if_ne hB 1752 dL_law_1737 (by decide) (fun z => absurd rfl z) (fun _ => ?_)
    refine g_aload_n hB 3 dL_law_1740 rfl rfl ?_
    refine g_iconst hB (nI 0) dL_law_1741 rfl ?_
    refine g_laldE hB 19 0 0 (n := 1) (f := fun j => (T 19 0 j).toInt64) (by decide) rfl (by decide) (by decide) dL_law_1742 ?_
    refine g_iload hB 6 dL_law_1743 rfl ?_
    refine g_i2l hB dL_law_1745 ?_
    refine g_lcmp hB dL_law_1746 ?_
    refine g_top 0 (by show lg_cmp (T 19 0 0).toInt64 r.toInt64 = 0; rw [(q3 hc).2, (q3 hc).1]; exact lg_cmp_self) ?_
    refine g_if_eq hB 1752 dL_law_1747 (by decide) (fun _ => ?_) (fun z => absurd rfl z)
    refine g_goto hB 1923 dL_law_1752 (by decide) ?_
    refine g_widen (k := K) (n := N) (by show _ + 0 ≤ K; omega) (by show _ + 0 ≤ N; omega) ?_
    exact g_sub [(0, .ref b), (1, .ref (ad 0 0)), (2, .ref (ad 17 0)), (3, .ref (ad 19 0)), (4, .int (nI i))] rfl (kk _ _ _ _ _ _ _ _ q4 q5 q6)
  · refine g_if_ne hB 1752 dL_law_1737 (by decide) (fun _ => ?_) (fun z => absurd z (fun w9 => hc ((nI_eq (a := code) (b := 0) (by omega) (by decide)).mp w9)))
    refine g_goto hB 1923 dL_law_1752 (by decide) ?_
    refine g_widen (k := K) (n := N) (by show _ + 0 ≤ K; omega) (by show _ + 0 ≤ N; omega) ?_
    exact g_sub [(0, .ref b), (1, .ref (ad 0 0)), (2, .ref (ad 17 0)), (3, .ref (ad 19 0)), (4, .int (nI i))] rfl (kk _ _ _ _ _ _ _ _ q4 q5 q6)
theorem law_dueAnew (hB : MB p s m args meth c cL_law RL 7 D ca SR A) (hX : va_X b L xs s s.heap) (hbl : b < s.heap.size) (hbA : ¬ A b) (hL : L ≤ 2560) (hl : l.stackTraces = false) {i K N ng nm nc t pa rk mo : Nat} {S : Mem} (h : INV S ng nm nc t pa rk mo) (hi : i + 5 ≤ L) (ht60 : t + 60 < 2 ^ 20) (hmo : mo + 1 < 2 ^ 20) (hK : cells + 4 ≤ K ∧ K ≤ 601024) (hN : slots + 24 ≤ N ∧ N ≤ 7293034) (kk : KX p l e s m args below meth c D ad A Q ca b i t mo K N) : G p l e room_1 s m args below meth c D ad A 7 Q cells slots CNT (SH ad ca S) 1687 [(0, .ref b), (1, .ref (ad 0 0)), (2, .ref (ad 17 0)), (3, .ref (ad 19 0)), (4, .int (nI i))] [] := by
  cases hq : askB (xs (i + 1)) (xs (i + 2)) nm with
  | false =>
    refine g_aload_n hB 1 dL_law_1687 rfl rfl ?_
    refine g_aload_n hB 0 dL_law_1688 rfl rfl ?_
    refine g_iload hB 4 dL_law_1689 rfl ?_
    refine g_iconst hB (nI 1) dL_law_1691 rfl ?_
    refine g_iadd hB dL_law_1692 ?_
    refine g_top (nI (i + 1)) (nI_add _ _) ?_
    refine g_sld hB hX hbl hbA (i + 1) (by omega) (by omega) dL_law_1693 ?_
    refine g_aload_n hB 0 dL_law_1694 rfl rfl ?_
    refine g_iload hB 4 dL_law_1695 rfl ?_
    refine g_iconst hB (nI 2) dL_law_1697 rfl ?_
    refine g_iadd hB dL_law_1698 ?_
    refine g_top (nI (i + 2)) (nI_add _ _) ?_
    refine g_sld hB hX hbl hbA (i + 2) (by omega) (by omega) dL_law_1699 ?_
    refine g_aload_n hB 3 dL_law_1700 rfl rfl ?_
    have hau : ∀ c, c < nc → ∃ a, a < 8 ∧ S 9 c 0 = nI a := fun c hc => by
      obtain ⟨a, s, k, c1, c2, c3, c4, c5⟩ := h.2.2.2.2.2.2.2.2.1 c hc
      exact ⟨a, c1, c4⟩
    refine g_callHSI hB (c_L_dueAnew hl S ng nm nc t pa h.1 hau (xs (i + 1)) (xs (i + 2))) k_L_198 yk_L_dueAnew ⟨Nat.le_of_ble_eq_true rfl, Nat.le_of_ble_eq_true rfl⟩ rfl (Nat.le_of_ble_eq_true rfl) ⟨by show cells + 2 ≤ 601024; omega, by show slots + 12 ≤ 7293034; omega⟩ dL_law_1701 ?_
    rintro _ _ ⟨rfl, rfl⟩
    refine g_istore hB 5 dL_law_1704 (by decide) ?_
    have hR : RI (TT S (r2C (xs (i + 1)) (xs (i + 2)) nm) (uM (daM S nc (ix (xs (i + 1)))) 19 0 0 (vsh (daM S nc (ix (xs (i + 1)))) (ix (xs (i + 2)))))) ng nm nc t pa := TT_RI h (daM_hi (by decide)) (daM_hi (by decide))
    obtain ⟨⟨hg, hng0, hng⟩, ⟨hm, hnm⟩, ⟨hc, hnc⟩, ⟨ht1, htb⟩, ⟨hpa, hpab⟩, hpar, hgr, hTK, htk⟩ := id hR
    refine g_aload_n hB 2 dL_law_1706 rfl rfl ?_
    refine g_aload_n hB 0 dL_law_1707 rfl rfl ?_
    refine g_iload hB 4 dL_law_1708 rfl ?_
    refine g_iconst hB (nI 1) dL_law_1710 rfl ?_
    refine g_iadd hB dL_law_1711 ?_
    refine g_top (nI (i + 1)) (nI_add _ _) ?_
    refine g_sld hB hX hbl hbA (i + 1) (by omega) (by omega) dL_law_1712 ?_
    refine g_aload_n hB 0 dL_law_1713 rfl rfl ?_
    refine g_iload hB 4 dL_law_1714 rfl ?_
    refine g_iconst hB (nI 2) dL_law_1716 rfl ?_
    refine g_iadd hB dL_law_1717 ?_
    refine g_top (nI (i + 2)) (nI_add _ _) ?_
    refine g_sld hB hX hbl hbA (i + 2) (by omega) (by omega) dL_law_1718 ?_
    have e9 : r2C (xs (i + 1)) (xs (i + 2)) nm = 1 := by
      unfold r2C; unfold askB at hq; revert hq; cases rgB (xs (i + 1)) nm <;> cases rgB (xs (i + 2)) 6 <;> intro hq <;> first | rfl | exact absurd hq (by decide)
    refine g_callVI hB (c_X6_dueAnew_f _ (xs (i + 1)) (xs (i + 2)) nm hm hnm hq) k_L_200 rfl yk_X6_dueAnew ⟨Nat.le_of_ble_eq_true rfl, Nat.le_of_ble_eq_true rfl⟩ ⟨(by decide), _, _, _, rfl, rfl, rfl⟩ rfl (Nat.le_of_ble_eq_true rfl) ⟨by show cells + 2 + 0 ≤ 601024; omega, by show slots + 12 + 0 ≤ 7293034; omega⟩ dL_law_1719 ?_
    rintro _ _ ⟨rfl, rfl⟩
    have ok : OKR (r2C (xs (i + 1)) (xs (i + 2)) nm) (vsh (daM S nc (ix (xs (i + 1)))) (ix (xs (i + 2)))) t mo (nI 0) (uM (TT S (r2C (xs (i + 1)) (xs (i + 2)) nm) (uM (daM S nc (ix (xs (i + 1)))) 19 0 0 (vsh (daM S nc (ix (xs (i + 1)))) (ix (xs (i + 2)))))) 17 0 0 (nI 1)) := by
      rw [e9]
      exact okf h (by decide) (by decide)
    exact g_sub [(0, .ref b), (1, .ref (ad 0 0)), (2, .ref (ad 17 0)), (3, .ref (ad 19 0)), (4, .int (nI i)), (5, .int (nI (r2C (xs (i + 1)) (xs (i + 2)) nm)))] rfl (tl_dueAnew hB (ok) ⟨by show cells + 2 + 0 ≤ K; omega, hK.2⟩ ⟨by show slots + 12 + 0 ≤ N; omega, hN.2⟩ kk)
  | true =>
    refine g_aload_n hB 1 dL_law_1687 rfl rfl ?_
    refine g_aload_n hB 0 dL_law_1688 rfl rfl ?_
    refine g_iload hB 4 dL_law_1689 rfl ?_
    refine g_iconst hB (nI 1) dL_law_1691 rfl ?_
    refine g_iadd hB dL_law_1692 ?_
    refine g_top (nI (i + 1)) (nI_add _ _) ?_
    refine g_sld hB hX hbl hbA (i + 1) (by omega) (by omega) dL_law_1693 ?_
    refine g_aload_n hB 0 dL_law_1694 rfl rfl ?_
    refine g_iload hB 4 dL_law_1695 rfl ?_
    refine g_iconst hB (nI 2) dL_law_1697 rfl ?_
    refine g_iadd hB dL_law_1698 ?_
    refine g_top (nI (i + 2)) (nI_add _ _) ?_
    refine g_sld hB hX hbl hbA (i + 2) (by omega) (by omega) dL_law_1699 ?_
    refine g_aload_n hB 3 dL_law_1700 rfl rfl ?_
    have hau : ∀ c, c < nc → ∃ a, a < 8 ∧ S 9 c 0 = nI a := fun c hc => by
      obtain ⟨a, s, k, c1, c2, c3, c4, c5⟩ := h.2.2.2.2.2.2.2.2.1 c hc
      exact ⟨a, c1, c4⟩
    refine g_callHSI hB (c_L_dueAnew hl S ng nm nc t pa h.1 hau (xs (i + 1)) (xs (i + 2))) k_L_198 yk_L_dueAnew ⟨Nat.le_of_ble_eq_true rfl, Nat.le_of_ble_eq_true rfl⟩ rfl (Nat.le_of_ble_eq_true rfl) ⟨by show cells + 2 ≤ 601024; omega, by show slots + 12 ≤ 7293034; omega⟩ dL_law_1701 ?_
    rintro _ _ ⟨rfl, rfl⟩
    refine g_istore hB 5 dL_law_1704 (by decide) ?_
    have hR : RI (TT S (r2C (xs (i + 1)) (xs (i + 2)) nm) (uM (daM S nc (ix (xs (i + 1)))) 19 0 0 (vsh (daM S nc (ix (xs (i + 1)))) (ix (xs (i + 2)))))) ng nm nc t pa := TT_RI h (daM_hi (by decide)) (daM_hi (by decide))
    obtain ⟨⟨hg, hng0, hng⟩, ⟨hm, hnm⟩, ⟨hc, hnc⟩, ⟨ht1, htb⟩, ⟨hpa, hpab⟩, hpar, hgr, hTK, htk⟩ := id hR
    refine g_aload_n hB 2 dL_law_1706 rfl rfl ?_
    refine g_aload_n hB 0 dL_law_1707 rfl rfl ?_
    refine g_iload hB 4 dL_law_1708 rfl ?_
    refine g_iconst hB (nI 1) dL_law_1710 rfl ?_
    refine g_iadd hB dL_law_1711 ?_
    refine g_top (nI (i + 1)) (nI_add _ _) ?_
    refine g_sld hB hX hbl hbA (i + 1) (by omega) (by omega) dL_law_1712 ?_
    refine g_aload_n hB 0 dL_law_1713 rfl rfl ?_
    refine g_iload hB 4 dL_law_1714 rfl ?_
    refine g_iconst hB (nI 2) dL_law_1716 rfl ?_
    refine g_iadd hB dL_law_1717 ?_
    refine g_top (nI (i + 2)) (nI_add _ _) ?_
    refine g_sld hB hX hbl hbA (i + 2) (by omega) (by omega) dL_law_1718 ?_
    have hxy : rgB (xs (i + 1)) nm = true ∧ rgB (xs (i + 2)) 6 = true := by unfold askB at hq; exact (Bool.and_eq_true _ _).mp hq
    have e9 : r2C (xs (i + 1)) (xs (i + 2)) nm = 0 := by unfold r2C; rw [hxy.1, hxy.2]; rfl
    obtain ⟨x9, hx9, ex9⟩ := rgB_t hxy.1
    have ix9 : ix (xs (i + 1)) = x9 := by rw [ex9]; exact ix_nI (by omega)
    obtain ⟨y9, hy9, ey9⟩ := rgB_t hxy.2
    have iy9 : ix (xs (i + 2)) = y9 := by rw [ey9]; exact ix_nI (by omega)
    obtain ⟨g9, hg9, hgm9⟩ := hgr x9 hx9
    have hgs : S 18 3 x9 = nI g9 := (congrFun (congrFun (TT_18 (S := S) (M := daM S nc (ix (xs (i + 1)))) (code := r2C (xs (i + 1)) (xs (i + 2)) nm) (v := vsh (daM S nc (ix (xs (i + 1)))) (ix (xs (i + 2)))) (daM_hi (by decide))) 3) x9).symm.trans hgm9
    refine g_st (st' := [.int (nI y9), .int (nI x9), .ref (ad 17 0)]) (by rw [ex9, ey9]) ?_
    refine g_callVI hB (c_X6_dueAnew _ x9 y9 g9 ng nc nm hm hnm hpar hng hg9 hgm9 hc hnc hTK hx9 hy9) k_L_200 rfl yk_X6_dueAnew ⟨Nat.le_of_ble_eq_true rfl, Nat.le_of_ble_eq_true rfl⟩ ⟨(by decide), _, _, _, rfl, rfl, rfl⟩ rfl (Nat.le_of_ble_eq_true rfl) ⟨by show cells + 2 + 0 ≤ 601024; omega, by show slots + 12 + 0 ≤ 7293034; omega⟩ dL_law_1719 ?_
    rintro _ _ ⟨rfl, v9, f9, b9, rfl⟩
    have ok : OKR (r2C (xs (i + 1)) (xs (i + 2)) nm) (vsh (daM S nc (ix (xs (i + 1)))) (ix (xs (i + 2)))) t mo (dueV (uM (TT S (r2C (xs (i + 1)) (xs (i + 2)) nm) (uM (daM S nc (ix (xs (i + 1)))) 19 0 0 (vsh (daM S nc (ix (xs (i + 1)))) (ix (xs (i + 2)))))) 17 0 0 (nI 0)) nc x9 g9 y9) (LK (uM (TT S (r2C (xs (i + 1)) (xs (i + 2)) nm) (uM (daM S nc (ix (xs (i + 1)))) 19 0 0 (vsh (daM S nc (ix (xs (i + 1)))) (ix (xs (i + 2)))))) 17 0 0 (nI 0)) v9 f9 b9) := by
      rw [e9, ix9, iy9]
      exact ok_dueAnew h hx9 hy9 (by omega) hgs v9 f9 b9
    exact g_sub [(0, .ref b), (1, .ref (ad 0 0)), (2, .ref (ad 17 0)), (3, .ref (ad 19 0)), (4, .int (nI i)), (5, .int (nI (r2C (xs (i + 1)) (xs (i + 2)) nm)))] rfl (tl_dueAnew hB (ok) ⟨by show cells + 2 + 0 ≤ K; omega, hK.2⟩ ⟨by show slots + 12 + 0 ≤ N; omega, hN.2⟩ kk)
theorem tl_behind (hB : MB p s m args meth c cL_law RL 7 D ca SR A) {i K N t mo code : Nat} {v r : Int32} {T : Mem} (hq : OKR code v t mo r T) (hK : cells ≤ K ∧ K ≤ 601024) (hN : slots ≤ N ∧ N ≤ 7293034) (kk : KX p l e s m args below meth c D ad A Q ca b i t mo K N) : G p l e room_1 s m args below meth c D ad A 7 Q cells slots CNT (SH ad ca T) 1778 [(0, .ref b), (1, .ref (ad 0 0)), (2, .ref (ad 17 0)), (3, .ref (ad 19 0)), (4, .int (nI i)), (5, .int (nI code))] [.int r] := by
  refine g_istore hB 6 dL_law_1778 (by decide) ?_
  refine g_aload_n hB 2 dL_law_1780 rfl rfl ?_
  refine g_callVI hB (c_X6_thrown _) k_L_114 rfl yk_X6_thrown ⟨Nat.le_of_ble_eq_true rfl, Nat.le_of_ble_eq_true rfl⟩ ⟨(by decide), _, _, _, rfl, rfl, rfl⟩ rfl (Nat.le_of_ble_eq_true rfl) ⟨by show cells + 0 ≤ 601024; omega, by show slots + 0 ≤ 7293034; omega⟩ dL_law_1781 ?_
  rintro _ _ ⟨rfl, rfl⟩
  obtain ⟨q1, q2, q3, ng', nm', nc', t', pa', rk', mo', q4, q5, q6⟩ := hq
  refine g_top (nI code) q1 ?_
  refine g_iload hB 5 dL_law_1784 rfl ?_
  refine g_icmp_eq hB 1791 dL_law_1786 (by decide) (fun _ => ?_) (fun z => absurd rfl z)
  refine g_iload hB 5 dL_law_1791 rfl ?_
  by_cases hc : code = 0
  · refine g_top (nI 0) (by rw [hc]) ?_
    refine g_if_ne hB 1808 dL_law_1793 (by decide) (fun z => absurd rfl z) (fun _ => ?_)
    refine g_aload_n hB 3 dL_law_1796 rfl rfl ?_
    refine g_iconst hB (nI 0) dL_law_1797 rfl ?_
    refine g_laldE hB 19 0 0 (n := 1) (f := fun j => (T 19 0 j).toInt64) (by decide) rfl (by decide) (by decide) dL_law_1798 ?_
    refine g_iload hB 6 dL_law_1799 rfl ?_
    refine g_i2l hB dL_law_1801 ?_
    refine g_lcmp hB dL_law_1802 ?_
    refine g_top 0 (by show lg_cmp (T 19 0 0).toInt64 r.toInt64 = 0; rw [(q3 hc).2, (q3 hc).1]; exact lg_cmp_self) ?_
    refine g_if_eq hB 1808 dL_law_1803 (by decide) (fun _ => ?_) (fun z => absurd rfl z)
    refine g_goto hB 1923 dL_law_1808 (by decide) ?_
    refine g_widen (k := K) (n := N) (by show _ + 0 ≤ K; omega) (by show _ + 0 ≤ N; omega) ?_
    exact g_sub [(0, .ref b), (1, .ref (ad 0 0)), (2, .ref (ad 17 0)), (3, .ref (ad 19 0)), (4, .int (nI i))] rfl (kk _ _ _ _ _ _ _ _ q4 q5 q6)
  · refine g_if_ne hB 1808 dL_law_1793 (by decide) (fun _ => ?_) (fun z => absurd z (fun w9 => hc ((nI_eq (a := code) (b := 0) (by omega) (by decide)).mp w9)))
    refine g_goto hB 1923 dL_law_1808 (by decide) ?_
    refine g_widen (k := K) (n := N) (by show _ + 0 ≤ K; omega) (by show _ + 0 ≤ N; omega) ?_
    exact g_sub [(0, .ref b), (1, .ref (ad 0 0)), (2, .ref (ad 17 0)), (3, .ref (ad 19 0)), (4, .int (nI i))] rfl (kk _ _ _ _ _ _ _ _ q4 q5 q6)
theorem law_behind (hB : MB p s m args meth c cL_law RL 7 D ca SR A) (hX : va_X b L xs s s.heap) (hbl : b < s.heap.size) (hbA : ¬ A b) (hL : L ≤ 2560) (hl : l.stackTraces = false) {i K N ng nm nc t pa rk mo : Nat} {S : Mem} (h : INV S ng nm nc t pa rk mo) (hi : i + 5 ≤ L) (ht60 : t + 60 < 2 ^ 20) (hmo : mo + 1 < 2 ^ 20) (hK : cells + 4 ≤ K ∧ K ≤ 601024) (hN : slots + 24 ≤ N ∧ N ≤ 7293034) (kk : KX p l e s m args below meth c D ad A Q ca b i t mo K N) : G p l e room_1 s m args below meth c D ad A 7 Q cells slots CNT (SH ad ca S) 1755 [(0, .ref b), (1, .ref (ad 0 0)), (2, .ref (ad 17 0)), (3, .ref (ad 19 0)), (4, .int (nI i))] [] := by
  refine g_aload_n hB 1 dL_law_1755 rfl rfl ?_
  refine g_aload_n hB 0 dL_law_1756 rfl rfl ?_
  refine g_iload hB 4 dL_law_1757 rfl ?_
  refine g_iconst hB (nI 1) dL_law_1759 rfl ?_
  refine g_iadd hB dL_law_1760 ?_
  refine g_top (nI (i + 1)) (nI_add _ _) ?_
  refine g_sld hB hX hbl hbA (i + 1) (by omega) (by omega) dL_law_1761 ?_
  refine g_aload_n hB 3 dL_law_1762 rfl rfl ?_
  refine g_callHSI hB (c_L_behind hl S ng nm nc t pa h.1 (xs (i + 1))) k_L_201 yk_L_behind ⟨Nat.le_of_ble_eq_true rfl, Nat.le_of_ble_eq_true rfl⟩ rfl (Nat.le_of_ble_eq_true rfl) ⟨by show cells + 1 ≤ 601024; omega, by show slots + 6 ≤ 7293034; omega⟩ dL_law_1763 ?_
  rintro _ _ ⟨rfl, rfl⟩
  refine g_istore hB 5 dL_law_1766 (by decide) ?_
  have hR : RI (TT S (rqC (xs (i + 1)) nm) (uM (S) 19 0 0 (nI (bhN S (ix (xs (i + 1))))))) ng nm nc t pa := TT_RI h (rfl) (rfl)
  obtain ⟨⟨hg, hng0, hng⟩, ⟨hm, hnm⟩, ⟨hc, hnc⟩, ⟨ht1, htb⟩, ⟨hpa, hpab⟩, hpar, hgr, hTK, htk⟩ := id hR
  refine g_aload_n hB 2 dL_law_1768 rfl rfl ?_
  refine g_aload_n hB 0 dL_law_1769 rfl rfl ?_
  refine g_iload hB 4 dL_law_1770 rfl ?_
  refine g_iconst hB (nI 1) dL_law_1772 rfl ?_
  refine g_iadd hB dL_law_1773 ?_
  refine g_top (nI (i + 1)) (nI_add _ _) ?_
  refine g_sld hB hX hbl hbA (i + 1) (by omega) (by omega) dL_law_1774 ?_
  refine g_callVI hB (c_X6_behind _ (xs (i + 1)) ng nm nc hm hnm hc hnc hng hpar hgr) k_L_203 rfl yk_X6_behind ⟨Nat.le_of_ble_eq_true rfl, Nat.le_of_ble_eq_true rfl⟩ ⟨(by decide), _, _, _, rfl, rfl, rfl⟩ rfl (Nat.le_of_ble_eq_true rfl) ⟨by show cells + 1 + 0 ≤ 601024; omega, by show slots + 6 + 0 ≤ 7293034; omega⟩ dL_law_1775 ?_
  rintro _ _ ⟨rfl, rfl⟩
  exact g_sub [(0, .ref b), (1, .ref (ad 0 0)), (2, .ref (ad 17 0)), (3, .ref (ad 19 0)), (4, .int (nI i)), (5, .int (nI (rqC (xs (i + 1)) nm)))] rfl (tl_behind hB (okr (step_behind h (xs (i + 1))) rqC3 rBehind9) ⟨by show cells + 1 + 0 ≤ K; omega, hK.2⟩ ⟨by show slots + 6 + 0 ≤ N; omega, hN.2⟩ kk)
theorem tl_hidden (hB : MB p s m args meth c cL_law RL 7 D ca SR A) {i K N t mo code : Nat} {v r : Int32} {T : Mem} (hq : OKR code v t mo r T) (hK : cells ≤ K ∧ K ≤ 601024) (hN : slots ≤ N ∧ N ≤ 7293034) (kk : KX p l e s m args below meth c D ad A Q ca b i t mo K N) : G p l e room_1 s m args below meth c D ad A 7 Q cells slots CNT (SH ad ca T) 1834 [(0, .ref b), (1, .ref (ad 0 0)), (2, .ref (ad 17 0)), (3, .ref (ad 19 0)), (4, .int (nI i)), (5, .int (nI code))] [.int r] := by
  refine g_istore hB 6 dL_law_1834 (by decide) ?_
  refine g_aload_n hB 2 dL_law_1836 rfl rfl ?_
  refine g_callVI hB (c_X6_thrown _) k_L_114 rfl yk_X6_thrown ⟨Nat.le_of_ble_eq_true rfl, Nat.le_of_ble_eq_true rfl⟩ ⟨(by decide), _, _, _, rfl, rfl, rfl⟩ rfl (Nat.le_of_ble_eq_true rfl) ⟨by show cells + 0 ≤ 601024; omega, by show slots + 0 ≤ 7293034; omega⟩ dL_law_1837 ?_
  rintro _ _ ⟨rfl, rfl⟩
  obtain ⟨q1, q2, q3, ng', nm', nc', t', pa', rk', mo', q4, q5, q6⟩ := hq
  refine g_top (nI code) q1 ?_
  refine g_iload hB 5 dL_law_1840 rfl ?_
  refine g_icmp_eq hB 1847 dL_law_1842 (by decide) (fun _ => ?_) (fun z => absurd rfl z)
  refine g_iload hB 5 dL_law_1847 rfl ?_
  by_cases hc : code = 0
  · refine g_top (nI 0) (by rw [hc]) ?_
    refine g_if_ne hB 1864 dL_law_1849 (by decide) (fun z => absurd rfl z) (fun _ => ?_)
    refine g_aload_n hB 3 dL_law_1852 rfl rfl ?_
    refine g_iconst hB (nI 0) dL_law_1853 rfl ?_
    refine g_laldE hB 19 0 0 (n := 1) (f := fun j => (T 19 0 j).toInt64) (by decide) rfl (by decide) (by decide) dL_law_1854 ?_
    refine g_iload hB 6 dL_law_1855 rfl ?_
    refine g_i2l hB dL_law_1857 ?_
    refine g_lcmp hB dL_law_1858 ?_
    refine g_top 0 (by show lg_cmp (T 19 0 0).toInt64 r.toInt64 = 0; rw [(q3 hc).2, (q3 hc).1]; exact lg_cmp_self) ?_
    refine g_if_eq hB 1864 dL_law_1859 (by decide) (fun _ => ?_) (fun z => absurd rfl z)
    refine g_goto hB 1923 dL_law_1864 (by decide) ?_
    refine g_widen (k := K) (n := N) (by show _ + 0 ≤ K; omega) (by show _ + 0 ≤ N; omega) ?_
    exact g_sub [(0, .ref b), (1, .ref (ad 0 0)), (2, .ref (ad 17 0)), (3, .ref (ad 19 0)), (4, .int (nI i))] rfl (kk _ _ _ _ _ _ _ _ q4 q5 q6)
  · refine g_if_ne hB 1864 dL_law_1849 (by decide) (fun _ => ?_) (fun z => absurd z (fun w9 => hc ((nI_eq (a := code) (b := 0) (by omega) (by decide)).mp w9)))
    refine g_goto hB 1923 dL_law_1864 (by decide) ?_
    refine g_widen (k := K) (n := N) (by show _ + 0 ≤ K; omega) (by show _ + 0 ≤ N; omega) ?_
    exact g_sub [(0, .ref b), (1, .ref (ad 0 0)), (2, .ref (ad 17 0)), (3, .ref (ad 19 0)), (4, .int (nI i))] rfl (kk _ _ _ _ _ _ _ _ q4 q5 q6)
theorem law_hidden (hB : MB p s m args meth c cL_law RL 7 D ca SR A) (hX : va_X b L xs s s.heap) (hbl : b < s.heap.size) (hbA : ¬ A b) (hL : L ≤ 2560) (hl : l.stackTraces = false) {i K N ng nm nc t pa rk mo : Nat} {S : Mem} (h : INV S ng nm nc t pa rk mo) (hi : i + 5 ≤ L) (ht60 : t + 60 < 2 ^ 20) (hmo : mo + 1 < 2 ^ 20) (hK : cells + 4 ≤ K ∧ K ≤ 601024) (hN : slots + 24 ≤ N ∧ N ≤ 7293034) (kk : KX p l e s m args below meth c D ad A Q ca b i t mo K N) : G p l e room_1 s m args below meth c D ad A 7 Q cells slots CNT (SH ad ca S) 1811 [(0, .ref b), (1, .ref (ad 0 0)), (2, .ref (ad 17 0)), (3, .ref (ad 19 0)), (4, .int (nI i))] [] := by
  cases hq : askB (xs (i + 1)) (nI 0) nm with
  | false =>
    refine g_aload_n hB 1 dL_law_1811 rfl rfl ?_
    refine g_aload_n hB 0 dL_law_1812 rfl rfl ?_
    refine g_iload hB 4 dL_law_1813 rfl ?_
    refine g_iconst hB (nI 1) dL_law_1815 rfl ?_
    refine g_iadd hB dL_law_1816 ?_
    refine g_top (nI (i + 1)) (nI_add _ _) ?_
    refine g_sld hB hX hbl hbA (i + 1) (by omega) (by omega) dL_law_1817 ?_
    refine g_aload_n hB 3 dL_law_1818 rfl rfl ?_
    refine g_callHSI hB (c_L_hidden hl S ng nm nc t pa h.1 (xs (i + 1))) k_L_204 yk_L_hidden ⟨Nat.le_of_ble_eq_true rfl, Nat.le_of_ble_eq_true rfl⟩ rfl (Nat.le_of_ble_eq_true rfl) ⟨by show cells + 1 ≤ 601024; omega, by show slots + 6 ≤ 7293034; omega⟩ dL_law_1819 ?_
    rintro _ _ ⟨rfl, rfl⟩
    refine g_istore hB 5 dL_law_1822 (by decide) ?_
    have hR : RI (TT S (rqC (xs (i + 1)) nm) (uM (duM S nc (ix (xs (i + 1)))) 19 0 0 (duM S nc (ix (xs (i + 1))) 15 0 3))) ng nm nc t pa := TT_RI h (duM_hi (by decide)) (duM_hi (by decide))
    obtain ⟨⟨hg, hng0, hng⟩, ⟨hm, hnm⟩, ⟨hc, hnc⟩, ⟨ht1, htb⟩, ⟨hpa, hpab⟩, hpar, hgr, hTK, htk⟩ := id hR
    refine g_aload_n hB 2 dL_law_1824 rfl rfl ?_
    refine g_aload_n hB 0 dL_law_1825 rfl rfl ?_
    refine g_iload hB 4 dL_law_1826 rfl ?_
    refine g_iconst hB (nI 1) dL_law_1828 rfl ?_
    refine g_iadd hB dL_law_1829 ?_
    refine g_top (nI (i + 1)) (nI_add _ _) ?_
    refine g_sld hB hX hbl hbA (i + 1) (by omega) (by omega) dL_law_1830 ?_
    have e9 : rqC (xs (i + 1)) nm = 1 := by
      unfold rqC; unfold askB at hq; revert hq; rw [show rgB (nI 0) 6 = true from rfl]; cases rgB (xs (i + 1)) nm <;> intro hq <;> first | rfl | exact absurd hq (by decide)
    refine g_callVI hB (c_X6_hidden_f _ (xs (i + 1)) nm hm hnm hq) k_L_206 rfl yk_X6_hidden ⟨Nat.le_of_ble_eq_true rfl, Nat.le_of_ble_eq_true rfl⟩ ⟨(by decide), _, _, _, rfl, rfl, rfl⟩ rfl (Nat.le_of_ble_eq_true rfl) ⟨by show cells + 1 + 0 ≤ 601024; omega, by show slots + 6 + 0 ≤ 7293034; omega⟩ dL_law_1831 ?_
    rintro _ _ ⟨rfl, rfl⟩
    have ok : OKR (rqC (xs (i + 1)) nm) (duM S nc (ix (xs (i + 1))) 15 0 3) t mo (nI 0) (uM (TT S (rqC (xs (i + 1)) nm) (uM (duM S nc (ix (xs (i + 1)))) 19 0 0 (duM S nc (ix (xs (i + 1))) 15 0 3))) 17 0 0 (nI 1)) := by
      rw [e9]
      exact okf h (by decide) (by decide)
    exact g_sub [(0, .ref b), (1, .ref (ad 0 0)), (2, .ref (ad 17 0)), (3, .ref (ad 19 0)), (4, .int (nI i)), (5, .int (nI (rqC (xs (i + 1)) nm)))] rfl (tl_hidden hB (ok) ⟨by show cells + 1 + 0 ≤ K; omega, hK.2⟩ ⟨by show slots + 6 + 0 ≤ N; omega, hN.2⟩ kk)
  | true =>
    refine g_aload_n hB 1 dL_law_1811 rfl rfl ?_
    refine g_aload_n hB 0 dL_law_1812 rfl rfl ?_
    refine g_iload hB 4 dL_law_1813 rfl ?_
    refine g_iconst hB (nI 1) dL_law_1815 rfl ?_
    refine g_iadd hB dL_law_1816 ?_
    refine g_top (nI (i + 1)) (nI_add _ _) ?_
    refine g_sld hB hX hbl hbA (i + 1) (by omega) (by omega) dL_law_1817 ?_
    refine g_aload_n hB 3 dL_law_1818 rfl rfl ?_
    refine g_callHSI hB (c_L_hidden hl S ng nm nc t pa h.1 (xs (i + 1))) k_L_204 yk_L_hidden ⟨Nat.le_of_ble_eq_true rfl, Nat.le_of_ble_eq_true rfl⟩ rfl (Nat.le_of_ble_eq_true rfl) ⟨by show cells + 1 ≤ 601024; omega, by show slots + 6 ≤ 7293034; omega⟩ dL_law_1819 ?_
    rintro _ _ ⟨rfl, rfl⟩
    refine g_istore hB 5 dL_law_1822 (by decide) ?_
    have hR : RI (TT S (rqC (xs (i + 1)) nm) (uM (duM S nc (ix (xs (i + 1)))) 19 0 0 (duM S nc (ix (xs (i + 1))) 15 0 3))) ng nm nc t pa := TT_RI h (duM_hi (by decide)) (duM_hi (by decide))
    obtain ⟨⟨hg, hng0, hng⟩, ⟨hm, hnm⟩, ⟨hc, hnc⟩, ⟨ht1, htb⟩, ⟨hpa, hpab⟩, hpar, hgr, hTK, htk⟩ := id hR
    refine g_aload_n hB 2 dL_law_1824 rfl rfl ?_
    refine g_aload_n hB 0 dL_law_1825 rfl rfl ?_
    refine g_iload hB 4 dL_law_1826 rfl ?_
    refine g_iconst hB (nI 1) dL_law_1828 rfl ?_
    refine g_iadd hB dL_law_1829 ?_
    refine g_top (nI (i + 1)) (nI_add _ _) ?_
    refine g_sld hB hX hbl hbA (i + 1) (by omega) (by omega) dL_law_1830 ?_
    have hxy : rgB (xs (i + 1)) nm = true ∧ rgB (nI 0) 6 = true := by unfold askB at hq; exact (Bool.and_eq_true _ _).mp hq
    have e9 : rqC (xs (i + 1)) nm = 0 := by unfold rqC; rw [hxy.1]; rfl
    obtain ⟨x9, hx9, ex9⟩ := rgB_t hxy.1
    have ix9 : ix (xs (i + 1)) = x9 := by rw [ex9]; exact ix_nI (by omega)
    obtain ⟨g9, hg9, hgm9⟩ := hgr x9 hx9
    have hgs : S 18 3 x9 = nI g9 := (congrFun (congrFun (TT_18 (S := S) (M := duM S nc (ix (xs (i + 1)))) (code := rqC (xs (i + 1)) nm) (v := duM S nc (ix (xs (i + 1))) 15 0 3) (duM_hi (by decide))) 3) x9).symm.trans hgm9
    refine g_st (st' := [.int (nI x9), .ref (ad 17 0)]) (by rw [ex9]) ?_
    refine g_callVI hB (c_X6_hidden _ x9 g9 ng nc nm hm hnm hpar hng hg9 hgm9 hc hnc hTK hx9) k_L_206 rfl yk_X6_hidden ⟨Nat.le_of_ble_eq_true rfl, Nat.le_of_ble_eq_true rfl⟩ ⟨(by decide), _, _, _, rfl, rfl, rfl⟩ rfl (Nat.le_of_ble_eq_true rfl) ⟨by show cells + 1 + 0 ≤ 601024; omega, by show slots + 6 + 0 ≤ 7293034; omega⟩ dL_law_1831 ?_
    rintro _ _ ⟨rfl, v9, f9, b9, rfl⟩
    have ok : OKR (rqC (xs (i + 1)) nm) (duM S nc (ix (xs (i + 1))) 15 0 3) t mo (orN (fun k => rHid (uM (TT S (rqC (xs (i + 1)) nm) (uM (duM S nc (ix (xs (i + 1)))) 19 0 0 (duM S nc (ix (xs (i + 1))) 15 0 3))) 17 0 0 (nI 0)) nc x9 g9 false k) 6) (LK (uM (TT S (rqC (xs (i + 1)) nm) (uM (duM S nc (ix (xs (i + 1)))) 19 0 0 (duM S nc (ix (xs (i + 1))) 15 0 3))) 17 0 0 (nI 0)) v9 f9 b9) := by
      rw [e9, ix9]
      exact ok_hidden h hx9 (by omega) hgs v9 f9 b9
    exact g_sub [(0, .ref b), (1, .ref (ad 0 0)), (2, .ref (ad 17 0)), (3, .ref (ad 19 0)), (4, .int (nI i)), (5, .int (nI (rqC (xs (i + 1)) nm)))] rfl (tl_hidden hB (ok) ⟨by show cells + 1 + 0 ≤ K; omega, hK.2⟩ ⟨by show slots + 6 + 0 ≤ N; omega, hN.2⟩ kk)
theorem tl_spread (hB : MB p s m args meth c cL_law RL 7 D ca SR A) {i K N t mo code : Nat} {v r : Int32} {T : Mem} (hq : OKR code v t mo r T) (hK : cells ≤ K ∧ K ≤ 601024) (hN : slots ≤ N ∧ N ≤ 7293034) (kk : KX p l e s m args below meth c D ad A Q ca b i t mo K N) : G p l e room_1 s m args below meth c D ad A 7 Q cells slots CNT (SH ad ca T) 1890 [(0, .ref b), (1, .ref (ad 0 0)), (2, .ref (ad 17 0)), (3, .ref (ad 19 0)), (4, .int (nI i)), (5, .int (nI code))] [.int r] := by
  refine g_istore hB 6 dL_law_1890 (by decide) ?_
  refine g_aload_n hB 2 dL_law_1892 rfl rfl ?_
  refine g_callVI hB (c_X6_thrown _) k_L_114 rfl yk_X6_thrown ⟨Nat.le_of_ble_eq_true rfl, Nat.le_of_ble_eq_true rfl⟩ ⟨(by decide), _, _, _, rfl, rfl, rfl⟩ rfl (Nat.le_of_ble_eq_true rfl) ⟨by show cells + 0 ≤ 601024; omega, by show slots + 0 ≤ 7293034; omega⟩ dL_law_1893 ?_
  rintro _ _ ⟨rfl, rfl⟩
  obtain ⟨q1, q2, q3, ng', nm', nc', t', pa', rk', mo', q4, q5, q6⟩ := hq
  refine g_top (nI code) q1 ?_
  refine g_iload hB 5 dL_law_1896 rfl ?_
  refine g_icmp_eq hB 1903 dL_law_1898 (by decide) (fun _ => ?_) (fun z => absurd rfl z)
  refine g_iload hB 5 dL_law_1903 rfl ?_
  by_cases hc : code = 0
  · refine g_top (nI 0) (by rw [hc]) ?_
    refine g_if_ne hB 1920 dL_law_1905 (by decide) (fun z => absurd rfl z) (fun _ => ?_)
    refine g_aload_n hB 3 dL_law_1908 rfl rfl ?_
    refine g_iconst hB (nI 0) dL_law_1909 rfl ?_
    refine g_laldE hB 19 0 0 (n := 1) (f := fun j => (T 19 0 j).toInt64) (by decide) rfl (by decide) (by decide) dL_law_1910 ?_
    refine g_iload hB 6 dL_law_1911 rfl ?_
    refine g_i2l hB dL_law_1913 ?_
    refine g_lcmp hB dL_law_1914 ?_
    refine g_top 0 (by show lg_cmp (T 19 0 0).toInt64 r.toInt64 = 0; rw [(q3 hc).2, (q3 hc).1]; exact lg_cmp_self) ?_
    refine g_if_eq hB 1920 dL_law_1915 (by decide) (fun _ => ?_) (fun z => absurd rfl z)
    refine g_goto hB 1923 dL_law_1920 (by decide) ?_
    refine g_widen (k := K) (n := N) (by show _ + 0 ≤ K; omega) (by show _ + 0 ≤ N; omega) ?_
    exact g_sub [(0, .ref b), (1, .ref (ad 0 0)), (2, .ref (ad 17 0)), (3, .ref (ad 19 0)), (4, .int (nI i))] rfl (kk _ _ _ _ _ _ _ _ q4 q5 q6)
  · refine g_if_ne hB 1920 dL_law_1905 (by decide) (fun _ => ?_) (fun z => absurd z (fun w9 => hc ((nI_eq (a := code) (b := 0) (by omega) (by decide)).mp w9)))
    refine g_goto hB 1923 dL_law_1920 (by decide) ?_
    refine g_widen (k := K) (n := N) (by show _ + 0 ≤ K; omega) (by show _ + 0 ≤ N; omega) ?_
    exact g_sub [(0, .ref b), (1, .ref (ad 0 0)), (2, .ref (ad 17 0)), (3, .ref (ad 19 0)), (4, .int (nI i))] rfl (kk _ _ _ _ _ _ _ _ q4 q5 q6)
theorem law_spread (hB : MB p s m args meth c cL_law RL 7 D ca SR A) (hX : va_X b L xs s s.heap) (hbl : b < s.heap.size) (hbA : ¬ A b) (hL : L ≤ 2560) (hl : l.stackTraces = false) {i K N ng nm nc t pa rk mo : Nat} {S : Mem} (h : INV S ng nm nc t pa rk mo) (hi : i + 5 ≤ L) (ht60 : t + 60 < 2 ^ 20) (hmo : mo + 1 < 2 ^ 20) (hK : cells + 4 ≤ K ∧ K ≤ 601024) (hN : slots + 24 ≤ N ∧ N ≤ 7293034) (kk : KX p l e s m args below meth c D ad A Q ca b i t mo K N) : G p l e room_1 s m args below meth c D ad A 7 Q cells slots CNT (SH ad ca S) 1867 [(0, .ref b), (1, .ref (ad 0 0)), (2, .ref (ad 17 0)), (3, .ref (ad 19 0)), (4, .int (nI i))] [] := by
  refine g_aload_n hB 1 dL_law_1867 rfl rfl ?_
  refine g_aload_n hB 0 dL_law_1868 rfl rfl ?_
  refine g_iload hB 4 dL_law_1869 rfl ?_
  refine g_iconst hB (nI 1) dL_law_1871 rfl ?_
  refine g_iadd hB dL_law_1872 ?_
  refine g_top (nI (i + 1)) (nI_add _ _) ?_
  refine g_sld hB hX hbl hbA (i + 1) (by omega) (by omega) dL_law_1873 ?_
  refine g_aload_n hB 3 dL_law_1874 rfl rfl ?_
  refine g_callHSI hB (c_L_spread hl S ng nm nc t pa h.1 (xs (i + 1))) k_L_207 yk_L_spread ⟨Nat.le_of_ble_eq_true rfl, Nat.le_of_ble_eq_true rfl⟩ rfl (Nat.le_of_ble_eq_true rfl) ⟨by show cells + 1 ≤ 601024; omega, by show slots + 6 ≤ 7293034; omega⟩ dL_law_1875 ?_
  rintro _ _ ⟨rfl, rfl⟩
  refine g_istore hB 5 dL_law_1878 (by decide) ?_
  have hR : RI (TT S (rqC (xs (i + 1)) nc) (uM (S) 19 0 0 (nI (sdN S nm (ix (xs (i + 1))))))) ng nm nc t pa := TT_RI h (rfl) (rfl)
  obtain ⟨⟨hg, hng0, hng⟩, ⟨hm, hnm⟩, ⟨hc, hnc⟩, ⟨ht1, htb⟩, ⟨hpa, hpab⟩, hpar, hgr, hTK, htk⟩ := id hR
  refine g_aload_n hB 2 dL_law_1880 rfl rfl ?_
  refine g_aload_n hB 0 dL_law_1881 rfl rfl ?_
  refine g_iload hB 4 dL_law_1882 rfl ?_
  refine g_iconst hB (nI 1) dL_law_1884 rfl ?_
  refine g_iadd hB dL_law_1885 ?_
  refine g_top (nI (i + 1)) (nI_add _ _) ?_
  refine g_sld hB hX hbl hbA (i + 1) (by omega) (by omega) dL_law_1886 ?_
  refine g_callVI hB (c_X6_spread _ (xs (i + 1)) nm nc hm hnm hc hnc) k_L_209 rfl yk_X6_spread ⟨Nat.le_of_ble_eq_true rfl, Nat.le_of_ble_eq_true rfl⟩ ⟨(by decide), _, _, _, rfl, rfl, rfl⟩ rfl (Nat.le_of_ble_eq_true rfl) ⟨by show cells + 1 + 0 ≤ 601024; omega, by show slots + 6 + 0 ≤ 7293034; omega⟩ dL_law_1887 ?_
  rintro _ _ ⟨rfl, rfl⟩
  exact g_sub [(0, .ref b), (1, .ref (ad 0 0)), (2, .ref (ad 17 0)), (3, .ref (ad 19 0)), (4, .int (nI i)), (5, .int (nI (rqC (xs (i + 1)) nc)))] rfl (tl_spread hB (okr (step_spread h (xs (i + 1))) rqC3 rSpread9) ⟨by show cells + 1 + 0 ≤ K; omega, hK.2⟩ ⟨by show slots + 6 + 0 ≤ N; omega, hN.2⟩ kk)
end LC
