/-! the law: its loop -/
section LC
variable {p : Program} {l : Launch} {e : Env} {s : State} {m : MethodId} {args : Array Value} {below : List Frame} {meth : Method} {c : Code} {D : va_G} {ad : Nat → Nat → Nat} {A : Nat → Prop} {Q : State → Prop} {cells slots : Nat} {ca : Nat → ClassId} {b L : Nat} {xs : Nat → Int32}
theorem law_road (hB : MB p s m args meth c cL_law RL 7 D ca SR A) (hX : va_X b L xs s s.heap) (hbl : b < s.heap.size) (hbA : ¬ A b) (hL : L ≤ 2560) (hl : l.stackTraces = false) {i K N ng nm nc t pa rk mo : Nat} {S : Mem} (h : INV S ng nm nc t pa rk mo) (hi : i + 5 ≤ L) (ht60 : t + 60 < 2 ^ 20) (hmo : mo + 1 < 2 ^ 20) (hK : cells + 4 ≤ K ∧ K ≤ 601024) (hN : slots + 24 ≤ N ∧ N ≤ 7293034) (kk : KX p l e s m args below meth c D ad A Q ca b i t mo K N) (j : Nat) (hj : j < 32) : G p l e room_1 s m args below meth c D ad A 7 Q cells slots CNT (SH ad ca S) 39 [(0, .ref b), (1, .ref (ad 0 0)), (2, .ref (ad 17 0)), (3, .ref (ad 19 0)), (4, .int (nI i))] [.int (nI j)] := by
  by_cases h29 : 29 ≤ j
  · refine g_tswO hB 1923 dL_law_39 (Or.inr (by rw [toInt_nI (by omega)]; omega)) (by decide) ?_
    refine g_widen (k := K) (n := N) (by omega) (by omega) ?_
    exact kk S ng nm nc t pa rk mo h (by omega) (by omega)
  · have h28 : j = 0 ∨ j = 1 ∨ j = 2 ∨ j = 3 ∨ j = 4 ∨ j = 5 ∨ j = 6 ∨ j = 7 ∨ j = 8 ∨ j = 9 ∨ j = 10 ∨ j = 11 ∨ j = 12 ∨ j = 13 ∨ j = 14 ∨ j = 15 ∨ j = 16 ∨ j = 17 ∨ j = 18 ∨ j = 19 ∨ j = 20 ∨ j = 21 ∨ j = 22 ∨ j = 23 ∨ j = 24 ∨ j = 25 ∨ j = 26 ∨ j = 27 ∨ j = 28 := by omega
    rcases h28 with rfl | rfl | rfl | rfl | rfl | rfl | rfl | rfl | rfl | rfl | rfl | rfl | rfl | rfl | rfl | rfl | rfl | rfl | rfl | rfl | rfl | rfl | rfl | rfl | rfl | rfl | rfl | rfl | rfl
    · exact g_tswI hB 168 dL_law_39 (by decide) (by decide) rfl (by decide) (law_setDuty hB hX hbl hbA hL hl h hi ht60 hmo hK hN kk)
    · exact g_tswI hB 236 dL_law_39 (by decide) (by decide) rfl (by decide) (law_leave hB hX hbl hbA hL hl h hi ht60 hmo hK hN kk)
    · exact g_tswI hB 320 dL_law_39 (by decide) (by decide) rfl (by decide) (law_comeBack hB hX hbl hbA hL hl h hi ht60 hmo hK hN kk)
    · exact g_tswI hB 356 dL_law_39 (by decide) (by decide) rfl (by decide) (law_pass hB hX hbl hbA hL hl h hi ht60 hmo hK hN kk)
    · exact g_tswI hB 412 dL_law_39 (by decide) (by decide) rfl (by decide) (law_day hB hX hbl hbA hL hl h hi ht60 hmo hK hN kk)
    · exact g_tswI hB 425 dL_law_39 (by decide) (by decide) rfl (by decide) (law_addGroup hB hX hbl hbA hL hl h hi ht60 hmo hK hN kk)
    · exact g_tswI hB 481 dL_law_39 (by decide) (by decide) rfl (by decide) (law_addMachine hB hX hbl hbA hL hl h hi ht60 hmo hK hN kk)
    · exact g_tswI hB 537 dL_law_39 (by decide) (by decide) rfl (by decide) (law_moveMachine hB hX hbl hbA hL hl h hi ht60 hmo hK hN kk)
    · exact g_tswI hB 605 dL_law_39 (by decide) (by decide) rfl (by decide) (law_work hB hX hbl hbA hL hl h hi ht60 hmo hK hN kk)
    · exact g_tswI hB 673 dL_law_39 (by decide) (by decide) rfl (by decide) (law_setPace hB hX hbl hbA hL hl h hi ht60 hmo hK hN kk)
    · exact g_tswI hB 729 dL_law_39 (by decide) (by decide) rfl (by decide) (law_isBusy hB hX hbl hbA hL hl h hi ht60 hmo hK hN kk)
    · exact g_tswI hB 792 dL_law_39 (by decide) (by decide) rfl (by decide) (law_isStopped hB hX hbl hbA hL hl h hi ht60 hmo hK hN kk)
    · exact g_tswI hB 855 dL_law_39 (by decide) (by decide) rfl (by decide) (law_propose hB hX hbl hbA hL hl h hi ht60 hmo hK hN kk)
    · exact g_tswI hB 947 dL_law_39 (by decide) (by decide) rfl (by decide) (law_approve hB hX hbl hbA hL hl h hi ht60 hmo hK hN kk)
    · exact g_tswI hB 1015 dL_law_39 (by decide) (by decide) rfl (by decide) (law_withdraw hB hX hbl hbA hL hl h hi ht60 hmo hK hN kk)
    · exact g_tswI hB 1051 dL_law_39 (by decide) (by decide) rfl (by decide) (law_exclude hB hX hbl hbA hL hl h hi ht60 hmo hK hN kk)
    · exact g_tswI hB 1154 dL_law_39 (by decide) (by decide) rfl (by decide) (law_changes hB hX hbl hbA hL hl h hi ht60 hmo hK hN kk)
    · exact g_tswI hB 1167 dL_law_39 (by decide) (by decide) rfl (by decide) (law_state hB hX hbl hbA hL hl h hi ht60 hmo hK hN kk)
    · exact g_tswI hB 1223 dL_law_39 (by decide) (by decide) rfl (by decide) (law_rank hB hX hbl hbA hL hl h hi ht60 hmo hK hN kk)
    · exact g_tswI hB 1279 dL_law_39 (by decide) (by decide) rfl (by decide) (law_approvals hB hX hbl hbA hL hl h hi ht60 hmo hK hN kk)
    · exact g_tswI hB 1335 dL_law_39 (by decide) (by decide) rfl (by decide) (law_told hB hX hbl hbA hL hl h hi ht60 hmo hK hN kk)
    · exact g_tswI hB 1403 dL_law_39 (by decide) (by decide) rfl (by decide) (law_taken hB hX hbl hbA hL hl h hi ht60 hmo hK hN kk)
    · exact g_tswI hB 1483 dL_law_39 (by decide) (by decide) rfl (by decide) (law_runs hB hX hbl hbA hL hl h hi ht60 hmo hK hN kk)
    · exact g_tswI hB 1551 dL_law_39 (by decide) (by decide) rfl (by decide) (law_layerOf hB hX hbl hbA hL hl h hi ht60 hmo hK hN kk)
    · exact g_tswI hB 1619 dL_law_39 (by decide) (by decide) rfl (by decide) (law_due hB hX hbl hbA hL hl h hi ht60 hmo hK hN kk)
    · exact g_tswI hB 1687 dL_law_39 (by decide) (by decide) rfl (by decide) (law_dueAnew hB hX hbl hbA hL hl h hi ht60 hmo hK hN kk)
    · exact g_tswI hB 1755 dL_law_39 (by decide) (by decide) rfl (by decide) (law_behind hB hX hbl hbA hL hl h hi ht60 hmo hK hN kk)
    · exact g_tswI hB 1811 dL_law_39 (by decide) (by decide) rfl (by decide) (law_hidden hB hX hbl hbA hL hl h hi ht60 hmo hK hN kk)
    · exact g_tswI hB 1867 dL_law_39 (by decide) (by decide) rfl (by decide) (law_spread hB hX hbl hbA hL hl h hi ht60 hmo hK hN kk)
theorem law_loop (hB : MB p s m args meth c cL_law RL 7 D ca SR A) (hX : va_X b L xs s s.heap) (hbl : b < s.heap.size) (hbA : ¬ A b) (hL : L ≤ 2560) (hl : l.stackTraces = false) (hexit : ∀ (i K N : Nat) (T : Mem), K ≤ 601024 → N ≤ 7293034 → G p l e room_1 s m args below meth c D ad A 7 Q K N CNT (SH ad ca T) 1929 [(0, .ref b), (1, .ref (ad 0 0)), (2, .ref (ad 17 0)), (3, .ref (ad 19 0)), (4, .int (nI i))] []) : ∀ (n k : Nat) (S : Mem) (ng nm nc t pa rk mo : Nat), INV S ng nm nc t pa rk mo → t ≤ 60 * k → mo ≤ k → L < 5 * (k + n) + 5 → k ≤ 512 → G p l e room_1 s m args below meth c D ad A 7 Q (1000 + 4 * k) (10000 + 24 * k) CNT (SH ad ca S) 23 [(0, .ref b), (1, .ref (ad 0 0)), (2, .ref (ad 17 0)), (3, .ref (ad 19 0)), (4, .int (nI (5 * k)))] [] := by
  intro n
  induction n with
  | zero =>
    intro k S ng nm nc t pa rk mo h ht hmo hk hk5
    refine g_iload hB 4 dL_law_23 rfl ?_
    refine g_aload_n hB 0 dL_law_25 rfl rfl ?_
    refine g_slen hB hX hbl hbA dL_law_26 ?_
    refine g_iconst hB (nI 5) dL_law_27 rfl ?_
    refine g_isub hB dL_law_28 ?_
    refine g_icmp_gt hB 1929 dL_law_29 (by decide) (fun _ => hexit (5 * k) _ _ S (by omega) (by omega)) (fun z => absurd ?_ z)
    rw [i32_lt, pk_sub_toInt (by omega) (by omega), toInt_nI (by omega)]
    omega
  | succ n ih =>
    intro k S ng nm nc t pa rk mo h ht hmo hk hk5
    refine g_iload hB 4 dL_law_23 rfl ?_
    refine g_aload_n hB 0 dL_law_25 rfl rfl ?_
    refine g_slen hB hX hbl hbA dL_law_26 ?_
    refine g_iconst hB (nI 5) dL_law_27 rfl ?_
    refine g_isub hB dL_law_28 ?_
    refine g_icmp_gt hB 1929 dL_law_29 (by decide) (fun _ => hexit (5 * k) _ _ S (by omega) (by omega)) (fun z => ?_)
    rw [i32_lt, pk_sub_toInt (by omega) (by omega), toInt_nI (by omega)] at z
    have hi : 5 * k + 5 ≤ L := by omega
    refine g_aload_n hB 0 dL_law_32 rfl rfl ?_
    refine g_iload hB 4 dL_law_33 rfl ?_
    refine g_sld hB hX hbl hbA (5 * k) (by omega) (by omega) dL_law_35 ?_
    refine g_bipush hB (nI 31) dL_law_36 rfl ?_
    refine g_iand hB dL_law_38 ?_
    obtain ⟨j, hj, ej⟩ := pk_andE (xs (5 * k)) (m := nI 31) 5 (by decide)
    refine g_top (nI j) ej ?_
    refine law_road hB hX hbl hbA hL hl h hi (by omega) (by omega) (K := 1000 + 4 * (k + 1)) (N := 10000 + 24 * (k + 1)) ⟨by omega, by omega⟩ ⟨by omega, by omega⟩ ?_ j hj
    intro T ng' nm' nc' t' pa' rk' mo' q4 q5 q6
    refine g_iinc hB (nI (5 * (k + 1))) dL_law_1923 rfl (nI_add (5 * k) 5) (by decide) ?_
    refine g_goto hB 23 dL_law_1926 (by decide) ?_
    exact g_sub [(0, .ref b), (1, .ref (ad 0 0)), (2, .ref (ad 17 0)), (3, .ref (ad 19 0)), (4, .int (nI (5 * (k + 1))))] rfl (ih (k + 1) T ng' nm' nc' t' pa' rk' mo' q4 (by omega) (by omega) (by omega) (by omega))
end LC
