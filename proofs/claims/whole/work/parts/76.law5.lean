/-! the law: roads of the switch -/
section LC
variable {p : Program} {l : Launch} {e : Env} {s : State} {m : MethodId} {args : Array Value} {below : List Frame} {meth : Method} {c : Code} {D : va_G} {ad : Nat → Nat → Nat} {A : Nat → Prop} {Q : State → Prop} {cells slots : Nat} {ca : Nat → ClassId} {b L : Nat} {xs : Nat → Int32}
theorem tl_work (hB : MB p s m args meth c cL_law RL 7 D ca SR A) {i K N t mo code : Nat} {v r : Int32} {T : Mem} (hq : OKR code v t mo r T) (hK : cells ≤ K ∧ K ≤ 601024) (hN : slots ≤ N ∧ N ≤ 7293034) (kk : KX p l e s m args below meth c D ad A Q ca b i t mo K N) : G p l e room_1 s m args below meth c D ad A 7 Q cells slots CNT (SH ad ca T) 640 [(0, .ref b), (1, .ref (ad 0 0)), (2, .ref (ad 17 0)), (3, .ref (ad 19 0)), (4, .int (nI i)), (5, .int (nI code))] [.int r] := by
  refine g_istore hB 6 dL_law_640 (by decide) ?_
  refine g_aload_n hB 2 dL_law_642 rfl rfl ?_
  refine g_callVI hB (c_X6_thrown _) k_L_114 rfl yk_X6_thrown ⟨Nat.le_of_ble_eq_true rfl, Nat.le_of_ble_eq_true rfl⟩ ⟨(by decide), _, _, _, rfl, rfl, rfl⟩ rfl (Nat.le_of_ble_eq_true rfl) ⟨by show cells + 0 ≤ 601024; omega, by show slots + 0 ≤ 7293034; omega⟩ dL_law_643 ?_
  rintro _ _ ⟨rfl, rfl⟩
  obtain ⟨q1, q2, q3, ng', nm', nc', t', pa', rk', mo', q4, q5, q6⟩ := hq
  refine g_top (nI code) q1 ?_
  refine g_iload hB 5 dL_law_646 rfl ?_
  refine g_icmp_eq hB 653 dL_law_648 (by decide) (fun _ => ?_) (fun z => absurd rfl z)
  refine g_iload hB 5 dL_law_653 rfl ?_
  by_cases hc : code = 0
  · refine g_top (nI 0) (by rw [hc]) ?_
    refine g_if_ne hB 670 dL_law_655 (by decide) (fun z => absurd rfl z) (fun _ => ?_)
    refine g_aload_n hB 3 dL_law_658 rfl rfl ?_
    refine g_iconst hB (nI 0) dL_law_659 rfl ?_
    refine g_laldE hB 19 0 0 (n := 1) (f := fun j => (T 19 0 j).toInt64) (by decide) rfl (by decide) (by decide) dL_law_660 ?_
    refine g_iload hB 6 dL_law_661 rfl ?_
    refine g_i2l hB dL_law_663 ?_
    refine g_lcmp hB dL_law_664 ?_
    refine g_top 0 (by show lg_cmp (T 19 0 0).toInt64 r.toInt64 = 0; rw [(q3 hc).2, (q3 hc).1]; exact lg_cmp_self) ?_
    refine g_if_eq hB 670 dL_law_665 (by decide) (fun _ => ?_) (fun z => absurd rfl z)
    refine g_goto hB 1923 dL_law_670 (by decide) ?_
    refine g_widen (k := K) (n := N) (by show _ + 0 ≤ K; omega) (by show _ + 0 ≤ N; omega) ?_
    exact g_sub [(0, .ref b), (1, .ref (ad 0 0)), (2, .ref (ad 17 0)), (3, .ref (ad 19 0)), (4, .int (nI i))] rfl (kk _ _ _ _ _ _ _ _ q4 q5 q6)
  · refine g_if_ne hB 670 dL_law_655 (by decide) (fun _ => ?_) (fun z => absurd z (fun w9 => hc ((nI_eq (a := code) (b := 0) (by omega) (by decide)).mp w9)))
    refine g_goto hB 1923 dL_law_670 (by decide) ?_
    refine g_widen (k := K) (n := N) (by show _ + 0 ≤ K; omega) (by show _ + 0 ≤ N; omega) ?_
    exact g_sub [(0, .ref b), (1, .ref (ad 0 0)), (2, .ref (ad 17 0)), (3, .ref (ad 19 0)), (4, .int (nI i))] rfl (kk _ _ _ _ _ _ _ _ q4 q5 q6)
theorem law_work (hB : MB p s m args meth c cL_law RL 7 D ca SR A) (hX : va_X b L xs s s.heap) (hbl : b < s.heap.size) (hbA : ¬ A b) (hL : L ≤ 2560) (hl : l.stackTraces = false) {i K N ng nm nc t pa rk mo : Nat} {S : Mem} (h : INV S ng nm nc t pa rk mo) (hi : i + 5 ≤ L) (ht60 : t + 60 < 2 ^ 20) (hmo : mo + 1 < 2 ^ 20) (hK : cells + 4 ≤ K ∧ K ≤ 601024) (hN : slots + 24 ≤ N ∧ N ≤ 7293034) (kk : KX p l e s m args below meth c D ad A Q ca b i t mo K N) : G p l e room_1 s m args below meth c D ad A 7 Q cells slots CNT (SH ad ca S) 605 [(0, .ref b), (1, .ref (ad 0 0)), (2, .ref (ad 17 0)), (3, .ref (ad 19 0)), (4, .int (nI i))] [] := by
  refine g_aload_n hB 1 dL_law_605 rfl rfl ?_
  refine g_aload_n hB 0 dL_law_606 rfl rfl ?_
  refine g_iload hB 4 dL_law_607 rfl ?_
  refine g_iconst hB (nI 1) dL_law_609 rfl ?_
  refine g_iadd hB dL_law_610 ?_
  refine g_top (nI (i + 1)) (nI_add _ _) ?_
  refine g_sld hB hX hbl hbA (i + 1) (by omega) (by omega) dL_law_611 ?_
  refine g_aload_n hB 0 dL_law_612 rfl rfl ?_
  refine g_iload hB 4 dL_law_613 rfl ?_
  refine g_iconst hB (nI 2) dL_law_615 rfl ?_
  refine g_iadd hB dL_law_616 ?_
  refine g_top (nI (i + 2)) (nI_add _ _) ?_
  refine g_sld hB hX hbl hbA (i + 2) (by omega) (by omega) dL_law_617 ?_
  refine g_aload_n hB 3 dL_law_618 rfl rfl ?_
  refine g_callHSI hB (c_L_work hl S ng nm nc t pa h.1 (xs (i + 1)) (xs (i + 2))) k_L_143 yk_L_work ⟨Nat.le_of_ble_eq_true rfl, Nat.le_of_ble_eq_true rfl⟩ rfl (Nat.le_of_ble_eq_true rfl) ⟨by show cells + 2 ≤ 601024; omega, by show slots + 12 ≤ 7293034; omega⟩ dL_law_619 ?_
  rintro _ _ ⟨rfl, rfl⟩
  refine g_istore hB 5 dL_law_622 (by decide) ?_
  have hR : RI (TT S (woC S (xs (i + 1)) (xs (i + 2)) nm nc) (uM (uM S 6 (ix (xs (i + 1))) 2 (S 0 0 0 + (xs (i + 2)))) 19 0 0 (S 0 0 0 + (xs (i + 2))))) ng nm nc t pa := TT_RI h (uM_hi (by decide) (by decide)) (uM_hi (by decide) (by decide))
  obtain ⟨⟨hg, hng0, hng⟩, ⟨hm, hnm⟩, ⟨hc, hnc⟩, ⟨ht1, htb⟩, ⟨hpa, hpab⟩, hpar, hgr, hTK, htk⟩ := id hR
  refine g_aload_n hB 2 dL_law_624 rfl rfl ?_
  refine g_aload_n hB 0 dL_law_625 rfl rfl ?_
  refine g_iload hB 4 dL_law_626 rfl ?_
  refine g_iconst hB (nI 1) dL_law_628 rfl ?_
  refine g_iadd hB dL_law_629 ?_
  refine g_top (nI (i + 1)) (nI_add _ _) ?_
  refine g_sld hB hX hbl hbA (i + 1) (by omega) (by omega) dL_law_630 ?_
  refine g_aload_n hB 0 dL_law_631 rfl rfl ?_
  refine g_iload hB 4 dL_law_632 rfl ?_
  refine g_iconst hB (nI 2) dL_law_634 rfl ?_
  refine g_iadd hB dL_law_635 ?_
  refine g_top (nI (i + 2)) (nI_add _ _) ?_
  refine g_sld hB hX hbl hbA (i + 2) (by omega) (by omega) dL_law_636 ?_
  refine g_callVI hB (c_X6_work _ (xs (i + 1)) (xs (i + 2)) nm hm hnm hTK) k_L_145 rfl yk_X6_work ⟨Nat.le_of_ble_eq_true rfl, Nat.le_of_ble_eq_true rfl⟩ ⟨(by decide), _, _, _, rfl, rfl, rfl⟩ rfl (Nat.le_of_ble_eq_true rfl) ⟨by show cells + 2 + 0 ≤ 601024; omega, by show slots + 12 + 0 ≤ 7293034; omega⟩ dL_law_637 ?_
  rintro _ _ ⟨rfl, rfl⟩
  exact g_sub [(0, .ref b), (1, .ref (ad 0 0)), (2, .ref (ad 17 0)), (3, .ref (ad 19 0)), (4, .int (nI i)), (5, .int (nI (woC S (xs (i + 1)) (xs (i + 2)) nm nc)))] rfl (tl_work hB (okr (step_work h (xs (i + 1)) (xs (i + 2))) woC3 rWork9) ⟨by show cells + 2 + 0 ≤ K; omega, hK.2⟩ ⟨by show slots + 12 + 0 ≤ N; omega, hN.2⟩ kk)
theorem tl_setPace (hB : MB p s m args meth c cL_law RL 7 D ca SR A) {i K N t mo code : Nat} {v r : Int32} {T : Mem} (hq : OKR code v t mo r T) (hK : cells ≤ K ∧ K ≤ 601024) (hN : slots ≤ N ∧ N ≤ 7293034) (kk : KX p l e s m args below meth c D ad A Q ca b i t mo K N) : G p l e room_1 s m args below meth c D ad A 7 Q cells slots CNT (SH ad ca T) 696 [(0, .ref b), (1, .ref (ad 0 0)), (2, .ref (ad 17 0)), (3, .ref (ad 19 0)), (4, .int (nI i)), (5, .int (nI code))] [.int r] := by
  refine g_istore hB 6 dL_law_696 (by decide) ?_
  refine g_aload_n hB 2 dL_law_698 rfl rfl ?_
  refine g_callVI hB (c_X6_thrown _) k_L_114 rfl yk_X6_thrown ⟨Nat.le_of_ble_eq_true rfl, Nat.le_of_ble_eq_true rfl⟩ ⟨(by decide), _, _, _, rfl, rfl, rfl⟩ rfl (Nat.le_of_ble_eq_true rfl) ⟨by show cells + 0 ≤ 601024; omega, by show slots + 0 ≤ 7293034; omega⟩ dL_law_699 ?_
  rintro _ _ ⟨rfl, rfl⟩
  obtain ⟨q1, q2, q3, ng', nm', nc', t', pa', rk', mo', q4, q5, q6⟩ := hq
  refine g_top (nI code) q1 ?_
  refine g_iload hB 5 dL_law_702 rfl ?_
  refine g_icmp_eq hB 709 dL_law_704 (by decide) (fun _ => ?_) (fun z => absurd rfl z)
  refine g_iload hB 5 dL_law_709 rfl ?_
  by_cases hc : code = 0
  · refine g_top (nI 0) (by rw [hc]) ?_
    refine g_if_ne hB 726 dL_law_711 (by decide) (fun z => absurd rfl z) (fun _ => ?_)
    refine g_aload_n hB 3 dL_law_714 rfl rfl ?_
    refine g_iconst hB (nI 0) dL_law_715 rfl ?_
    refine g_laldE hB 19 0 0 (n := 1) (f := fun j => (T 19 0 j).toInt64) (by decide) rfl (by decide) (by decide) dL_law_716 ?_
    refine g_iload hB 6 dL_law_717 rfl ?_
    refine g_i2l hB dL_law_719 ?_
    refine g_lcmp hB dL_law_720 ?_
    refine g_top 0 (by show lg_cmp (T 19 0 0).toInt64 r.toInt64 = 0; rw [(q3 hc).2, (q3 hc).1]; exact lg_cmp_self) ?_
    refine g_if_eq hB 726 dL_law_721 (by decide) (fun _ => ?_) (fun z => absurd rfl z)
    refine g_goto hB 1923 dL_law_726 (by decide) ?_
    refine g_widen (k := K) (n := N) (by show _ + 0 ≤ K; omega) (by show _ + 0 ≤ N; omega) ?_
    exact g_sub [(0, .ref b), (1, .ref (ad 0 0)), (2, .ref (ad 17 0)), (3, .ref (ad 19 0)), (4, .int (nI i))] rfl (kk _ _ _ _ _ _ _ _ q4 q5 q6)
  · refine g_if_ne hB 726 dL_law_711 (by decide) (fun _ => ?_) (fun z => absurd z (fun w9 => hc ((nI_eq (a := code) (b := 0) (by omega) (by decide)).mp w9)))
    refine g_goto hB 1923 dL_law_726 (by decide) ?_
    refine g_widen (k := K) (n := N) (by show _ + 0 ≤ K; omega) (by show _ + 0 ≤ N; omega) ?_
    exact g_sub [(0, .ref b), (1, .ref (ad 0 0)), (2, .ref (ad 17 0)), (3, .ref (ad 19 0)), (4, .int (nI i))] rfl (kk _ _ _ _ _ _ _ _ q4 q5 q6)
theorem law_setPace (hB : MB p s m args meth c cL_law RL 7 D ca SR A) (hX : va_X b L xs s s.heap) (hbl : b < s.heap.size) (hbA : ¬ A b) (hL : L ≤ 2560) (hl : l.stackTraces = false) {i K N ng nm nc t pa rk mo : Nat} {S : Mem} (h : INV S ng nm nc t pa rk mo) (hi : i + 5 ≤ L) (ht60 : t + 60 < 2 ^ 20) (hmo : mo + 1 < 2 ^ 20) (hK : cells + 4 ≤ K ∧ K ≤ 601024) (hN : slots + 24 ≤ N ∧ N ≤ 7293034) (kk : KX p l e s m args below meth c D ad A Q ca b i t mo K N) : G p l e room_1 s m args below meth c D ad A 7 Q cells slots CNT (SH ad ca S) 673 [(0, .ref b), (1, .ref (ad 0 0)), (2, .ref (ad 17 0)), (3, .ref (ad 19 0)), (4, .int (nI i))] [] := by
  refine g_aload_n hB 1 dL_law_673 rfl rfl ?_
  refine g_aload_n hB 0 dL_law_674 rfl rfl ?_
  refine g_iload hB 4 dL_law_675 rfl ?_
  refine g_iconst hB (nI 1) dL_law_677 rfl ?_
  refine g_iadd hB dL_law_678 ?_
  refine g_top (nI (i + 1)) (nI_add _ _) ?_
  refine g_sld hB hX hbl hbA (i + 1) (by omega) (by omega) dL_law_679 ?_
  refine g_aload_n hB 3 dL_law_680 rfl rfl ?_
  refine g_callHSI hB (c_L_setPace hl S (xs (i + 1))) k_L_146 yk_L_setPace ⟨Nat.le_of_ble_eq_true rfl, Nat.le_of_ble_eq_true rfl⟩ rfl (Nat.le_of_ble_eq_true rfl) ⟨by show cells + 1 ≤ 601024; omega, by show slots + 6 ≤ 7293034; omega⟩ dL_law_681 ?_
  rintro _ _ ⟨rfl, rfl⟩
  refine g_istore hB 5 dL_law_684 (by decide) ?_
  have hR : RI (TT S (spC (xs (i + 1))) (uM (uM S 0 0 1 (xs (i + 1))) 19 0 0 (S 0 0 1))) ng nm nc t pa := TT_RI h (uM_hi (by decide) (by decide)) (uM_hi (by decide) (by decide))
  obtain ⟨⟨hg, hng0, hng⟩, ⟨hm, hnm⟩, ⟨hc, hnc⟩, ⟨ht1, htb⟩, ⟨hpa, hpab⟩, hpar, hgr, hTK, htk⟩ := id hR
  refine g_aload_n hB 2 dL_law_686 rfl rfl ?_
  refine g_aload_n hB 0 dL_law_687 rfl rfl ?_
  refine g_iload hB 4 dL_law_688 rfl ?_
  refine g_iconst hB (nI 1) dL_law_690 rfl ?_
  refine g_iadd hB dL_law_691 ?_
  refine g_top (nI (i + 1)) (nI_add _ _) ?_
  refine g_sld hB hX hbl hbA (i + 1) (by omega) (by omega) dL_law_692 ?_
  refine g_callVI hB (c_X6_setPace _ (xs (i + 1))) k_L_148 rfl yk_X6_setPace ⟨Nat.le_of_ble_eq_true rfl, Nat.le_of_ble_eq_true rfl⟩ ⟨(by decide), _, _, _, rfl, rfl, rfl⟩ rfl (Nat.le_of_ble_eq_true rfl) ⟨by show cells + 1 + 0 ≤ 601024; omega, by show slots + 6 + 0 ≤ 7293034; omega⟩ dL_law_693 ?_
  rintro _ _ ⟨rfl, rfl⟩
  exact g_sub [(0, .ref b), (1, .ref (ad 0 0)), (2, .ref (ad 17 0)), (3, .ref (ad 19 0)), (4, .int (nI i)), (5, .int (nI (spC (xs (i + 1)))))] rfl (tl_setPace hB (okr (step_setPace h (xs (i + 1))) spC3 rSetPace9) ⟨by show cells + 1 + 0 ≤ K; omega, hK.2⟩ ⟨by show slots + 6 + 0 ≤ N; omega, hN.2⟩ kk)
theorem tl_isBusy (hB : MB p s m args meth c cL_law RL 7 D ca SR A) {i K N t mo code : Nat} {v r : Int32} {T : Mem} (hq : OKR code v t mo r T) (bv : Bool) (hb : v = bI bv) (hK : cells ≤ K ∧ K ≤ 601024) (hN : slots ≤ N ∧ N ≤ 7293034) (kk : KX p l e s m args below meth c D ad A Q ca b i t mo K N) : G p l e room_1 s m args below meth c D ad A 7 Q cells slots CNT (SH ad ca T) 752 [(0, .ref b), (1, .ref (ad 0 0)), (2, .ref (ad 17 0)), (3, .ref (ad 19 0)), (4, .int (nI i)), (5, .int (nI code))] [.int r] := by
  refine g_istore hB 6 dL_law_752 (by decide) ?_
  refine g_aload_n hB 2 dL_law_754 rfl rfl ?_
  refine g_callVI hB (c_X6_thrown _) k_L_114 rfl yk_X6_thrown ⟨Nat.le_of_ble_eq_true rfl, Nat.le_of_ble_eq_true rfl⟩ ⟨(by decide), _, _, _, rfl, rfl, rfl⟩ rfl (Nat.le_of_ble_eq_true rfl) ⟨by show cells + 0 ≤ 601024; omega, by show slots + 0 ≤ 7293034; omega⟩ dL_law_755 ?_
  rintro _ _ ⟨rfl, rfl⟩
  obtain ⟨q1, q2, q3, ng', nm', nc', t', pa', rk', mo', q4, q5, q6⟩ := hq
  refine g_top (nI code) q1 ?_
  refine g_iload hB 5 dL_law_758 rfl ?_
  refine g_icmp_eq hB 765 dL_law_760 (by decide) (fun _ => ?_) (fun z => absurd rfl z)
  refine g_iload hB 5 dL_law_765 rfl ?_
  by_cases hc : code = 0
  · refine g_top (nI 0) (by rw [hc]) ?_
    refine g_if_ne hB 789 dL_law_767 (by decide) (fun z => absurd rfl z) (fun _ => ?_)
    refine g_aload_n hB 3 dL_law_770 rfl rfl ?_
    refine g_iconst hB (nI 0) dL_law_771 rfl ?_
    refine g_laldE hB 19 0 0 (n := 1) (f := fun j => (T 19 0 j).toInt64) (by decide) rfl (by decide) (by decide) dL_law_772 ?_
    refine g_iload hB 6 dL_law_773 rfl ?_
    refine g_top (bI bv) ((q3 hc).1.symm.trans hb) ?_
    refine b_if_eq hB bv 782 dL_law_775 (by decide) (fun c9 => ?_) (fun c9 => ?_)
    · refine g_lconst2 hB (0) dL_law_782 rfl ?_
      refine g_lcmp hB dL_law_783 ?_
      refine g_top 0 (by show lg_cmp (T 19 0 0).toInt64 0 = 0; rw [(q3 hc).2, hb, c9]; decide) ?_
      refine g_if_eq hB 789 dL_law_784 (by decide) (fun _ => ?_) (fun z => absurd rfl z)
      refine g_goto hB 1923 dL_law_789 (by decide) ?_
      refine g_widen (k := K) (n := N) (by show _ + 0 ≤ K; omega) (by show _ + 0 ≤ N; omega) ?_
      exact g_sub [(0, .ref b), (1, .ref (ad 0 0)), (2, .ref (ad 17 0)), (3, .ref (ad 19 0)), (4, .int (nI i))] rfl (kk _ _ _ _ _ _ _ _ q4 q5 q6)
    · refine g_lconst2 hB (1) dL_law_778 rfl ?_
      refine g_goto hB 783 dL_law_779 (by decide) ?_
      refine g_lcmp hB dL_law_783 ?_
      refine g_top 0 (by show lg_cmp (T 19 0 0).toInt64 1 = 0; rw [(q3 hc).2, hb, c9]; decide) ?_
      refine g_if_eq hB 789 dL_law_784 (by decide) (fun _ => ?_) (fun z => absurd rfl z)
      refine g_goto hB 1923 dL_law_789 (by decide) ?_
      refine g_widen (k := K) (n := N) (by show _ + 0 ≤ K; omega) (by show _ + 0 ≤ N; omega) ?_
      exact g_sub [(0, .ref b), (1, .ref (ad 0 0)), (2, .ref (ad 17 0)), (3, .ref (ad 19 0)), (4, .int (nI i))] rfl (kk _ _ _ _ _ _ _ _ q4 q5 q6)
  · refine g_if_ne hB 789 dL_law_767 (by decide) (fun _ => ?_) (fun z => absurd z (fun w9 => hc ((nI_eq (a := code) (b := 0) (by omega) (by decide)).mp w9)))
    refine g_goto hB 1923 dL_law_789 (by decide) ?_
    refine g_widen (k := K) (n := N) (by show _ + 0 ≤ K; omega) (by show _ + 0 ≤ N; omega) ?_
    exact g_sub [(0, .ref b), (1, .ref (ad 0 0)), (2, .ref (ad 17 0)), (3, .ref (ad 19 0)), (4, .int (nI i))] rfl (kk _ _ _ _ _ _ _ _ q4 q5 q6)
theorem law_isBusy (hB : MB p s m args meth c cL_law RL 7 D ca SR A) (hX : va_X b L xs s s.heap) (hbl : b < s.heap.size) (hbA : ¬ A b) (hL : L ≤ 2560) (hl : l.stackTraces = false) {i K N ng nm nc t pa rk mo : Nat} {S : Mem} (h : INV S ng nm nc t pa rk mo) (hi : i + 5 ≤ L) (ht60 : t + 60 < 2 ^ 20) (hmo : mo + 1 < 2 ^ 20) (hK : cells + 4 ≤ K ∧ K ≤ 601024) (hN : slots + 24 ≤ N ∧ N ≤ 7293034) (kk : KX p l e s m args below meth c D ad A Q ca b i t mo K N) : G p l e room_1 s m args below meth c D ad A 7 Q cells slots CNT (SH ad ca S) 729 [(0, .ref b), (1, .ref (ad 0 0)), (2, .ref (ad 17 0)), (3, .ref (ad 19 0)), (4, .int (nI i))] [] := by
  refine g_aload_n hB 1 dL_law_729 rfl rfl ?_
  refine g_aload_n hB 0 dL_law_730 rfl rfl ?_
  refine g_iload hB 4 dL_law_731 rfl ?_
  refine g_iconst hB (nI 1) dL_law_733 rfl ?_
  refine g_iadd hB dL_law_734 ?_
  refine g_top (nI (i + 1)) (nI_add _ _) ?_
  refine g_sld hB hX hbl hbA (i + 1) (by omega) (by omega) dL_law_735 ?_
  refine g_aload_n hB 3 dL_law_736 rfl rfl ?_
  refine g_callHSI hB (c_L_isBusy hl S ng nm nc t pa h.1 (xs (i + 1))) k_L_149 yk_L_isBusy ⟨Nat.le_of_ble_eq_true rfl, Nat.le_of_ble_eq_true rfl⟩ rfl (Nat.le_of_ble_eq_true rfl) ⟨by show cells + 1 ≤ 601024; omega, by show slots + 6 ≤ 7293034; omega⟩ dL_law_737 ?_
  rintro _ _ ⟨rfl, rfl⟩
  refine g_istore hB 5 dL_law_740 (by decide) ?_
  have hR : RI (TT S (rqC (xs (i + 1)) nm) (uM (S) 19 0 0 (bI (decide (S 0 0 0 < S 6 (ix (xs (i + 1))) 2))))) ng nm nc t pa := TT_RI h (rfl) (rfl)
  obtain ⟨⟨hg, hng0, hng⟩, ⟨hm, hnm⟩, ⟨hc, hnc⟩, ⟨ht1, htb⟩, ⟨hpa, hpab⟩, hpar, hgr, hTK, htk⟩ := id hR
  refine g_aload_n hB 2 dL_law_742 rfl rfl ?_
  refine g_aload_n hB 0 dL_law_743 rfl rfl ?_
  refine g_iload hB 4 dL_law_744 rfl ?_
  refine g_iconst hB (nI 1) dL_law_746 rfl ?_
  refine g_iadd hB dL_law_747 ?_
  refine g_top (nI (i + 1)) (nI_add _ _) ?_
  refine g_sld hB hX hbl hbA (i + 1) (by omega) (by omega) dL_law_748 ?_
  refine g_callVI hB (c_X6_isBusy _ (xs (i + 1)) nm hm hnm) k_L_151 rfl yk_X6_isBusy ⟨Nat.le_of_ble_eq_true rfl, Nat.le_of_ble_eq_true rfl⟩ ⟨(by decide), _, _, _, rfl, rfl, rfl⟩ rfl (Nat.le_of_ble_eq_true rfl) ⟨by show cells + 1 + 0 ≤ 601024; omega, by show slots + 6 + 0 ≤ 7293034; omega⟩ dL_law_749 ?_
  rintro _ _ ⟨rfl, rfl⟩
  exact g_sub [(0, .ref b), (1, .ref (ad 0 0)), (2, .ref (ad 17 0)), (3, .ref (ad 19 0)), (4, .int (nI i)), (5, .int (nI (rqC (xs (i + 1)) nm)))] rfl (tl_isBusy hB (okr (step_isBusy h (xs (i + 1))) rqC3 rIsBusy9) (decide (S 0 0 0 < S 6 (ix (xs (i + 1))) 2)) rfl ⟨by show cells + 1 + 0 ≤ K; omega, hK.2⟩ ⟨by show slots + 6 + 0 ≤ N; omega, hN.2⟩ kk)
theorem tl_isStopped (hB : MB p s m args meth c cL_law RL 7 D ca SR A) {i K N t mo code : Nat} {v r : Int32} {T : Mem} (hq : OKR code v t mo r T) (bv : Bool) (hb : v = bI bv) (hK : cells ≤ K ∧ K ≤ 601024) (hN : slots ≤ N ∧ N ≤ 7293034) (kk : KX p l e s m args below meth c D ad A Q ca b i t mo K N) : G p l e room_1 s m args below meth c D ad A 7 Q cells slots CNT (SH ad ca T) 815 [(0, .ref b), (1, .ref (ad 0 0)), (2, .ref (ad 17 0)), (3, .ref (ad 19 0)), (4, .int (nI i)), (5, .int (nI code))] [.int r] := by
  refine g_istore hB 6 dL_law_815 (by decide) ?_
  refine g_aload_n hB 2 dL_law_817 rfl rfl ?_
  refine g_callVI hB (c_X6_thrown _) k_L_114 rfl yk_X6_thrown ⟨Nat.le_of_ble_eq_true rfl, Nat.le_of_ble_eq_true rfl⟩ ⟨(by decide), _, _, _, rfl, rfl, rfl⟩ rfl (Nat.le_of_ble_eq_true rfl) ⟨by show cells + 0 ≤ 601024; omega, by show slots + 0 ≤ 7293034; omega⟩ dL_law_818 ?_
  rintro _ _ ⟨rfl, rfl⟩
  obtain ⟨q1, q2, q3, ng', nm', nc', t', pa', rk', mo', q4, q5, q6⟩ := hq
  refine g_top (nI code) q1 ?_
  refine g_iload hB 5 dL_law_821 rfl ?_
  refine g_icmp_eq hB 828 dL_law_823 (by decide) (fun _ => ?_) (fun z => absurd rfl z)
  refine g_iload hB 5 dL_law_828 rfl ?_
  by_cases hc : code = 0
  · refine g_top (nI 0) (by rw [hc]) ?_
    refine g_if_ne hB 852 dL_law_830 (by decide) (fun z => absurd rfl z) (fun _ => ?_)
    refine g_aload_n hB 3 dL_law_833 rfl rfl ?_
    refine g_iconst hB (nI 0) dL_law_834 rfl ?_
    refine g_laldE hB 19 0 0 (n := 1) (f := fun j => (T 19 0 j).toInt64) (by decide) rfl (by decide) (by decide) dL_law_835 ?_
    refine g_iload hB 6 dL_law_836 rfl ?_
    refine g_top (bI bv) ((q3 hc).1.symm.trans hb) ?_
    refine b_if_eq hB bv 845 dL_law_838 (by decide) (fun c9 => ?_) (fun c9 => ?_)
    · refine g_lconst2 hB (0) dL_law_845 rfl ?_
      refine g_lcmp hB dL_law_846 ?_
      refine g_top 0 (by show lg_cmp (T 19 0 0).toInt64 0 = 0; rw [(q3 hc).2, hb, c9]; decide) ?_
      refine g_if_eq hB 852 dL_law_847 (by decide) (fun _ => ?_) (fun z => absurd rfl z)
      refine g_goto hB 1923 dL_law_852 (by decide) ?_
      refine g_widen (k := K) (n := N) (by show _ + 0 ≤ K; omega) (by show _ + 0 ≤ N; omega) ?_
      exact g_sub [(0, .ref b), (1, .ref (ad 0 0)), (2, .ref (ad 17 0)), (3, .ref (ad 19 0)), (4, .int (nI i))] rfl (kk _ _ _ _ _ _ _ _ q4 q5 q6)
    · refine g_lconst2 hB (1) dL_law_841 rfl ?_
      refine g_goto hB 846 dL_law_842 (by decide) ?_
      refine g_lcmp hB dL_law_846 ?_
      refine g_top 0 (by show lg_cmp (T 19 0 0).toInt64 1 = 0; rw [(q3 hc).2, hb, c9]; decide) ?_
      refine g_if_eq hB 852 dL_law_847 (by decide) (fun _ => ?_) (fun z => absurd rfl z)
      refine g_goto hB 1923 dL_law_852 (by decide) ?_
      refine g_widen (k := K) (n := N) (by show _ + 0 ≤ K; omega) (by show _ + 0 ≤ N; omega) ?_
      exact g_sub [(0, .ref b), (1, .ref (ad 0 0)), (2, .ref (ad 17 0)), (3, .ref (ad 19 0)), (4, .int (nI i))] rfl (kk _ _ _ _ _ _ _ _ q4 q5 q6)
  · refine g_if_ne hB 852 dL_law_830 (by decide) (fun _ => ?_) (fun z => absurd z (fun w9 => hc ((nI_eq (a := code) (b := 0) (by omega) (by decide)).mp w9)))
    refine g_goto hB 1923 dL_law_852 (by decide) ?_
    refine g_widen (k := K) (n := N) (by show _ + 0 ≤ K; omega) (by show _ + 0 ≤ N; omega) ?_
    exact g_sub [(0, .ref b), (1, .ref (ad 0 0)), (2, .ref (ad 17 0)), (3, .ref (ad 19 0)), (4, .int (nI i))] rfl (kk _ _ _ _ _ _ _ _ q4 q5 q6)
theorem law_isStopped (hB : MB p s m args meth c cL_law RL 7 D ca SR A) (hX : va_X b L xs s s.heap) (hbl : b < s.heap.size) (hbA : ¬ A b) (hL : L ≤ 2560) (hl : l.stackTraces = false) {i K N ng nm nc t pa rk mo : Nat} {S : Mem} (h : INV S ng nm nc t pa rk mo) (hi : i + 5 ≤ L) (ht60 : t + 60 < 2 ^ 20) (hmo : mo + 1 < 2 ^ 20) (hK : cells + 4 ≤ K ∧ K ≤ 601024) (hN : slots + 24 ≤ N ∧ N ≤ 7293034) (kk : KX p l e s m args below meth c D ad A Q ca b i t mo K N) : G p l e room_1 s m args below meth c D ad A 7 Q cells slots CNT (SH ad ca S) 792 [(0, .ref b), (1, .ref (ad 0 0)), (2, .ref (ad 17 0)), (3, .ref (ad 19 0)), (4, .int (nI i))] [] := by
  refine g_aload_n hB 1 dL_law_792 rfl rfl ?_
  refine g_aload_n hB 0 dL_law_793 rfl rfl ?_
  refine g_iload hB 4 dL_law_794 rfl ?_
  refine g_iconst hB (nI 1) dL_law_796 rfl ?_
  refine g_iadd hB dL_law_797 ?_
  refine g_top (nI (i + 1)) (nI_add _ _) ?_
  refine g_sld hB hX hbl hbA (i + 1) (by omega) (by omega) dL_law_798 ?_
  refine g_aload_n hB 3 dL_law_799 rfl rfl ?_
  refine g_callHSI hB (c_L_isStopped hl S ng nm nc t pa h.1 (xs (i + 1))) k_L_152 yk_L_isStopped ⟨Nat.le_of_ble_eq_true rfl, Nat.le_of_ble_eq_true rfl⟩ rfl (Nat.le_of_ble_eq_true rfl) ⟨by show cells + 1 ≤ 601024; omega, by show slots + 6 ≤ 7293034; omega⟩ dL_law_800 ?_
  rintro _ _ ⟨rfl, rfl⟩
  refine g_istore hB 5 dL_law_803 (by decide) ?_
  have hR : RI (TT S (rqC (xs (i + 1)) nm) (uM (S) 19 0 0 (bI ((cNear S nc (ix (xs (i + 1))) (clay S (ix (xs (i + 1))))).isSome)))) ng nm nc t pa := TT_RI h (rfl) (rfl)
  obtain ⟨⟨hg, hng0, hng⟩, ⟨hm, hnm⟩, ⟨hc, hnc⟩, ⟨ht1, htb⟩, ⟨hpa, hpab⟩, hpar, hgr, hTK, htk⟩ := id hR
  refine g_aload_n hB 2 dL_law_805 rfl rfl ?_
  refine g_aload_n hB 0 dL_law_806 rfl rfl ?_
  refine g_iload hB 4 dL_law_807 rfl ?_
  refine g_iconst hB (nI 1) dL_law_809 rfl ?_
  refine g_iadd hB dL_law_810 ?_
  refine g_top (nI (i + 1)) (nI_add _ _) ?_
  refine g_sld hB hX hbl hbA (i + 1) (by omega) (by omega) dL_law_811 ?_
  refine g_callVI hB (c_X6_isStopped _ (xs (i + 1)) nm hm hnm hTK) k_L_154 rfl yk_X6_isStopped ⟨Nat.le_of_ble_eq_true rfl, Nat.le_of_ble_eq_true rfl⟩ ⟨(by decide), _, _, _, rfl, rfl, rfl⟩ rfl (Nat.le_of_ble_eq_true rfl) ⟨by show cells + 1 + 0 ≤ 601024; omega, by show slots + 6 + 0 ≤ 7293034; omega⟩ dL_law_812 ?_
  rintro _ _ ⟨rfl, rfl⟩
  exact g_sub [(0, .ref b), (1, .ref (ad 0 0)), (2, .ref (ad 17 0)), (3, .ref (ad 19 0)), (4, .int (nI i)), (5, .int (nI (rqC (xs (i + 1)) nm)))] rfl (tl_isStopped hB (okr (step_isStopped h (xs (i + 1))) rqC3 rIsStopped9) ((cNear S nc (ix (xs (i + 1))) (clay S (ix (xs (i + 1))))).isSome) rfl ⟨by show cells + 1 + 0 ≤ K; omega, hK.2⟩ ⟨by show slots + 6 + 0 ≤ N; omega, hN.2⟩ kk)
theorem tl_propose (hB : MB p s m args meth c cL_law RL 7 D ca SR A) {i K N t mo code : Nat} {v r : Int32} {T : Mem} (hq : OKR code v t mo r T) (hK : cells ≤ K ∧ K ≤ 601024) (hN : slots ≤ N ∧ N ≤ 7293034) (kk : KX p l e s m args below meth c D ad A Q ca b i t mo K N) : G p l e room_1 s m args below meth c D ad A 7 Q cells slots CNT (SH ad ca T) 914 [(0, .ref b), (1, .ref (ad 0 0)), (2, .ref (ad 17 0)), (3, .ref (ad 19 0)), (4, .int (nI i)), (5, .int (nI code))] [.int r] := by
  refine g_istore hB 6 dL_law_914 (by decide) ?_
  refine g_aload_n hB 2 dL_law_916 rfl rfl ?_
  refine g_callVI hB (c_X6_thrown _) k_L_114 rfl yk_X6_thrown ⟨Nat.le_of_ble_eq_true rfl, Nat.le_of_ble_eq_true rfl⟩ ⟨(by decide), _, _, _, rfl, rfl, rfl⟩ rfl (Nat.le_of_ble_eq_true rfl) ⟨by show cells + 0 ≤ 601024; omega, by show slots + 0 ≤ 7293034; omega⟩ dL_law_917 ?_
  rintro _ _ ⟨rfl, rfl⟩
  obtain ⟨q1, q2, q3, ng', nm', nc', t', pa', rk', mo', q4, q5, q6⟩ := hq
  refine g_top (nI code) q1 ?_
  refine g_iload hB 5 dL_law_920 rfl ?_
  refine g_icmp_eq hB 927 dL_law_922 (by decide) (fun _ => ?_) (fun z => absurd rfl z)
  refine g_iload hB 5 dL_law_927 rfl ?_
  by_cases hc : code = 0
  · refine g_top (nI 0) (by rw [hc]) ?_
    refine g_if_ne hB 944 dL_law_929 (by decide) (fun z => absurd rfl z) (fun _ => ?_)
    refine g_aload_n hB 3 dL_law_932 rfl rfl ?_
    refine g_iconst hB (nI 0) dL_law_933 rfl ?_
    refine g_laldE hB 19 0 0 (n := 1) (f := fun j => (T 19 0 j).toInt64) (by decide) rfl (by decide) (by decide) dL_law_934 ?_
    refine g_iload hB 6 dL_law_935 rfl ?_
    refine g_i2l hB dL_law_937 ?_
    refine g_lcmp hB dL_law_938 ?_
    refine g_top 0 (by show lg_cmp (T 19 0 0).toInt64 r.toInt64 = 0; rw [(q3 hc).2, (q3 hc).1]; exact lg_cmp_self) ?_
    refine g_if_eq hB 944 dL_law_939 (by decide) (fun _ => ?_) (fun z => absurd rfl z)
    refine g_goto hB 1923 dL_law_944 (by decide) ?_
    refine g_widen (k := K) (n := N) (by show _ + 0 ≤ K; omega) (by show _ + 0 ≤ N; omega) ?_
    exact g_sub [(0, .ref b), (1, .ref (ad 0 0)), (2, .ref (ad 17 0)), (3, .ref (ad 19 0)), (4, .int (nI i))] rfl (kk _ _ _ _ _ _ _ _ q4 q5 q6)
  · refine g_if_ne hB 944 dL_law_929 (by decide) (fun _ => ?_) (fun z => absurd z (fun w9 => hc ((nI_eq (a := code) (b := 0) (by omega) (by decide)).mp w9)))
    refine g_goto hB 1923 dL_law_944 (by decide) ?_
    refine g_widen (k := K) (n := N) (by show _ + 0 ≤ K; omega) (by show _ + 0 ≤ N; omega) ?_
    exact g_sub [(0, .ref b), (1, .ref (ad 0 0)), (2, .ref (ad 17 0)), (3, .ref (ad 19 0)), (4, .int (nI i))] rfl (kk _ _ _ _ _ _ _ _ q4 q5 q6)
theorem law_propose (hB : MB p s m args meth c cL_law RL 7 D ca SR A) (hX : va_X b L xs s s.heap) (hbl : b < s.heap.size) (hbA : ¬ A b) (hL : L ≤ 2560) (hl : l.stackTraces = false) {i K N ng nm nc t pa rk mo : Nat} {S : Mem} (h : INV S ng nm nc t pa rk mo) (hi : i + 5 ≤ L) (ht60 : t + 60 < 2 ^ 20) (hmo : mo + 1 < 2 ^ 20) (hK : cells + 4 ≤ K ∧ K ≤ 601024) (hN : slots + 24 ≤ N ∧ N ≤ 7293034) (kk : KX p l e s m args below meth c D ad A Q ca b i t mo K N) : G p l e room_1 s m args below meth c D ad A 7 Q cells slots CNT (SH ad ca S) 855 [(0, .ref b), (1, .ref (ad 0 0)), (2, .ref (ad 17 0)), (3, .ref (ad 19 0)), (4, .int (nI i))] [] := by
  refine g_aload_n hB 1 dL_law_855 rfl rfl ?_
  refine g_aload_n hB 0 dL_law_856 rfl rfl ?_
  refine g_iload hB 4 dL_law_857 rfl ?_
  refine g_iconst hB (nI 1) dL_law_859 rfl ?_
  refine g_iadd hB dL_law_860 ?_
  refine g_top (nI (i + 1)) (nI_add _ _) ?_
  refine g_sld hB hX hbl hbA (i + 1) (by omega) (by omega) dL_law_861 ?_
  refine g_aload_n hB 0 dL_law_862 rfl rfl ?_
  refine g_iload hB 4 dL_law_863 rfl ?_
  refine g_iconst hB (nI 2) dL_law_865 rfl ?_
  refine g_iadd hB dL_law_866 ?_
  refine g_top (nI (i + 2)) (nI_add _ _) ?_
  refine g_sld hB hX hbl hbA (i + 2) (by omega) (by omega) dL_law_867 ?_
  refine g_aload_n hB 0 dL_law_868 rfl rfl ?_
  refine g_iload hB 4 dL_law_869 rfl ?_
  refine g_iconst hB (nI 3) dL_law_871 rfl ?_
  refine g_iadd hB dL_law_872 ?_
  refine g_top (nI (i + 3)) (nI_add _ _) ?_
  refine g_sld hB hX hbl hbA (i + 3) (by omega) (by omega) dL_law_873 ?_
  refine g_aload_n hB 0 dL_law_874 rfl rfl ?_
  refine g_iload hB 4 dL_law_875 rfl ?_
  refine g_iconst hB (nI 4) dL_law_877 rfl ?_
  refine g_iadd hB dL_law_878 ?_
  refine g_top (nI (i + 4)) (nI_add _ _) ?_
  refine g_sld hB hX hbl hbA (i + 4) (by omega) (by omega) dL_law_879 ?_
  refine g_aload_n hB 3 dL_law_880 rfl rfl ?_
  refine g_callHSI hB (c_L_propose hl S ng nm nc t pa h.1 (xs (i + 1)) (xs (i + 2)) (xs (i + 3)) (xs (i + 4))) k_L_155 yk_L_propose ⟨Nat.le_of_ble_eq_true rfl, Nat.le_of_ble_eq_true rfl⟩ rfl (Nat.le_of_ble_eq_true rfl) ⟨by show cells + 4 ≤ 601024; omega, by show slots + 24 ≤ 7293034; omega⟩ dL_law_881 ?_
  rintro _ _ ⟨rfl, rfl⟩
  refine g_istore hB 5 dL_law_884 (by decide) ?_
  have hR : RI (TT S (prC S (xs (i + 1)) (xs (i + 2)) (xs (i + 3)) (xs (i + 4)) ng nm nc) (uM (prM S nc (xs (i + 1)) (nI (ix (slF (xs (i + 2)) ng nm) * 6 + ix (xs (i + 3)))) (xs (i + 4))) 19 0 0 (nI nc))) ng nm nc t pa := TT_RI h (prM_hi (by decide)) (prM_hi (by decide))
  obtain ⟨⟨hg, hng0, hng⟩, ⟨hm, hnm⟩, ⟨hc, hnc⟩, ⟨ht1, htb⟩, ⟨hpa, hpab⟩, hpar, hgr, hTK, htk⟩ := id hR
  refine g_aload_n hB 2 dL_law_886 rfl rfl ?_
  refine g_aload_n hB 0 dL_law_887 rfl rfl ?_
  refine g_iload hB 4 dL_law_888 rfl ?_
  refine g_iconst hB (nI 1) dL_law_890 rfl ?_
  refine g_iadd hB dL_law_891 ?_
  refine g_top (nI (i + 1)) (nI_add _ _) ?_
  refine g_sld hB hX hbl hbA (i + 1) (by omega) (by omega) dL_law_892 ?_
  refine g_aload_n hB 0 dL_law_893 rfl rfl ?_
  refine g_iload hB 4 dL_law_894 rfl ?_
  refine g_iconst hB (nI 2) dL_law_896 rfl ?_
  refine g_iadd hB dL_law_897 ?_
  refine g_top (nI (i + 2)) (nI_add _ _) ?_
  refine g_sld hB hX hbl hbA (i + 2) (by omega) (by omega) dL_law_898 ?_
  refine g_aload_n hB 0 dL_law_899 rfl rfl ?_
  refine g_iload hB 4 dL_law_900 rfl ?_
  refine g_iconst hB (nI 3) dL_law_902 rfl ?_
  refine g_iadd hB dL_law_903 ?_
  refine g_top (nI (i + 3)) (nI_add _ _) ?_
  refine g_sld hB hX hbl hbA (i + 3) (by omega) (by omega) dL_law_904 ?_
  refine g_aload_n hB 0 dL_law_905 rfl rfl ?_
  refine g_iload hB 4 dL_law_906 rfl ?_
  refine g_iconst hB (nI 4) dL_law_908 rfl ?_
  refine g_iadd hB dL_law_909 ?_
  refine g_top (nI (i + 4)) (nI_add _ _) ?_
  refine g_sld hB hX hbl hbA (i + 4) (by omega) (by omega) dL_law_910 ?_
  refine g_callVI hB (c_X6_propose _ (xs (i + 1)) (xs (i + 2)) (xs (i + 3)) (xs (i + 4)) ng nm nc hg hng hm hnm hc hnc) k_L_158 rfl yk_X6_propose ⟨Nat.le_of_ble_eq_true rfl, Nat.le_of_ble_eq_true rfl⟩ ⟨(by decide), _, _, _, rfl, rfl, rfl⟩ rfl (Nat.le_of_ble_eq_true rfl) ⟨by show cells + 4 + 0 ≤ 601024; omega, by show slots + 24 + 0 ≤ 7293034; omega⟩ dL_law_911 ?_
  rintro _ _ ⟨rfl, rfl⟩
  exact g_sub [(0, .ref b), (1, .ref (ad 0 0)), (2, .ref (ad 17 0)), (3, .ref (ad 19 0)), (4, .int (nI i)), (5, .int (nI (prC S (xs (i + 1)) (xs (i + 2)) (xs (i + 3)) (xs (i + 4)) ng nm nc)))] rfl (tl_propose hB (okr (step_propose h (xs (i + 1)) (xs (i + 2)) (xs (i + 3)) (xs (i + 4))) prC3 rPropose9) ⟨by show cells + 4 + 0 ≤ K; omega, hK.2⟩ ⟨by show slots + 24 + 0 ≤ N; omega, hN.2⟩ kk)
theorem tl_approve (hB : MB p s m args meth c cL_law RL 7 D ca SR A) {i K N t mo code : Nat} {v r : Int32} {T : Mem} (hq : OKR code v t mo r T) (hK : cells ≤ K ∧ K ≤ 601024) (hN : slots ≤ N ∧ N ≤ 7293034) (kk : KX p l e s m args below meth c D ad A Q ca b i t mo K N) : G p l e room_1 s m args below meth c D ad A 7 Q cells slots CNT (SH ad ca T) 982 [(0, .ref b), (1, .ref (ad 0 0)), (2, .ref (ad 17 0)), (3, .ref (ad 19 0)), (4, .int (nI i)), (5, .int (nI code))] [.int r] := by
  refine g_istore hB 6 dL_law_982 (by decide) ?_
  refine g_aload_n hB 2 dL_law_984 rfl rfl ?_
  refine g_callVI hB (c_X6_thrown _) k_L_114 rfl yk_X6_thrown ⟨Nat.le_of_ble_eq_true rfl, Nat.le_of_ble_eq_true rfl⟩ ⟨(by decide), _, _, _, rfl, rfl, rfl⟩ rfl (Nat.le_of_ble_eq_true rfl) ⟨by show cells + 0 ≤ 601024; omega, by show slots + 0 ≤ 7293034; omega⟩ dL_law_985 ?_
  rintro _ _ ⟨rfl, rfl⟩
  obtain ⟨q1, q2, q3, ng', nm', nc', t', pa', rk', mo', q4, q5, q6⟩ := hq
  refine g_top (nI code) q1 ?_
  refine g_iload hB 5 dL_law_988 rfl ?_
  refine g_icmp_eq hB 995 dL_law_990 (by decide) (fun _ => ?_) (fun z => absurd rfl z)
  refine g_iload hB 5 dL_law_995 rfl ?_
  by_cases hc : code = 0
  · refine g_top (nI 0) (by rw [hc]) ?_
    refine g_if_ne hB 1012 dL_law_997 (by decide) (fun z => absurd rfl z) (fun _ => ?_)
    refine g_aload_n hB 3 dL_law_1000 rfl rfl ?_
    refine g_iconst hB (nI 0) dL_law_1001 rfl ?_
    refine g_laldE hB 19 0 0 (n := 1) (f := fun j => (T 19 0 j).toInt64) (by decide) rfl (by decide) (by decide) dL_law_1002 ?_
    refine g_iload hB 6 dL_law_1003 rfl ?_
    refine g_i2l hB dL_law_1005 ?_
    refine g_lcmp hB dL_law_1006 ?_
    refine g_top 0 (by show lg_cmp (T 19 0 0).toInt64 r.toInt64 = 0; rw [(q3 hc).2, (q3 hc).1]; exact lg_cmp_self) ?_
    refine g_if_eq hB 1012 dL_law_1007 (by decide) (fun _ => ?_) (fun z => absurd rfl z)
    refine g_goto hB 1923 dL_law_1012 (by decide) ?_
    refine g_widen (k := K) (n := N) (by show _ + 0 ≤ K; omega) (by show _ + 0 ≤ N; omega) ?_
    exact g_sub [(0, .ref b), (1, .ref (ad 0 0)), (2, .ref (ad 17 0)), (3, .ref (ad 19 0)), (4, .int (nI i))] rfl (kk _ _ _ _ _ _ _ _ q4 q5 q6)
  · refine g_if_ne hB 1012 dL_law_997 (by decide) (fun _ => ?_) (fun z => absurd z (fun w9 => hc ((nI_eq (a := code) (b := 0) (by omega) (by decide)).mp w9)))
    refine g_goto hB 1923 dL_law_1012 (by decide) ?_
    refine g_widen (k := K) (n := N) (by show _ + 0 ≤ K; omega) (by show _ + 0 ≤ N; omega) ?_
    exact g_sub [(0, .ref b), (1, .ref (ad 0 0)), (2, .ref (ad 17 0)), (3, .ref (ad 19 0)), (4, .int (nI i))] rfl (kk _ _ _ _ _ _ _ _ q4 q5 q6)
theorem law_approve (hB : MB p s m args meth c cL_law RL 7 D ca SR A) (hX : va_X b L xs s s.heap) (hbl : b < s.heap.size) (hbA : ¬ A b) (hL : L ≤ 2560) (hl : l.stackTraces = false) {i K N ng nm nc t pa rk mo : Nat} {S : Mem} (h : INV S ng nm nc t pa rk mo) (hi : i + 5 ≤ L) (ht60 : t + 60 < 2 ^ 20) (hmo : mo + 1 < 2 ^ 20) (hK : cells + 4 ≤ K ∧ K ≤ 601024) (hN : slots + 24 ≤ N ∧ N ≤ 7293034) (kk : KX p l e s m args below meth c D ad A Q ca b i t mo K N) : G p l e room_1 s m args below meth c D ad A 7 Q cells slots CNT (SH ad ca S) 947 [(0, .ref b), (1, .ref (ad 0 0)), (2, .ref (ad 17 0)), (3, .ref (ad 19 0)), (4, .int (nI i))] [] := by
  refine g_aload_n hB 1 dL_law_947 rfl rfl ?_
  refine g_aload_n hB 0 dL_law_948 rfl rfl ?_
  refine g_iload hB 4 dL_law_949 rfl ?_
  refine g_iconst hB (nI 1) dL_law_951 rfl ?_
  refine g_iadd hB dL_law_952 ?_
  refine g_top (nI (i + 1)) (nI_add _ _) ?_
  refine g_sld hB hX hbl hbA (i + 1) (by omega) (by omega) dL_law_953 ?_
  refine g_aload_n hB 0 dL_law_954 rfl rfl ?_
  refine g_iload hB 4 dL_law_955 rfl ?_
  refine g_iconst hB (nI 2) dL_law_957 rfl ?_
  refine g_iadd hB dL_law_958 ?_
  refine g_top (nI (i + 2)) (nI_add _ _) ?_
  refine g_sld hB hX hbl hbA (i + 2) (by omega) (by omega) dL_law_959 ?_
  refine g_aload_n hB 3 dL_law_960 rfl rfl ?_
  refine g_callHSI hB (c_L_approve hl S ng nm nc t pa h.1 (xs (i + 1)) (xs (i + 2))) k_L_159 yk_L_approve ⟨Nat.le_of_ble_eq_true rfl, Nat.le_of_ble_eq_true rfl⟩ rfl (Nat.le_of_ble_eq_true rfl) ⟨by show cells + 3 ≤ 601024; omega, by show slots + 18 ≤ 7293034; omega⟩ dL_law_961 ?_
  rintro _ _ ⟨rfl, rfl⟩
  refine g_istore hB 5 dL_law_964 (by decide) ?_
  have hR : RI (TT S (apC S (xs (i + 1)) (xs (i + 2)) nc t) (uM (apM S (ix (xs (i + 1))) (ix (xs (i + 2))) nc) 19 0 0 (apM S (ix (xs (i + 1))) (ix (xs (i + 2))) nc 9 (ix (xs (i + 2))) 4))) ng nm nc t pa := TT_RI h (apM_hi (by decide)) (apM_hi (by decide))
  obtain ⟨⟨hg, hng0, hng⟩, ⟨hm, hnm⟩, ⟨hc, hnc⟩, ⟨ht1, htb⟩, ⟨hpa, hpab⟩, hpar, hgr, hTK, htk⟩ := id hR
  refine g_aload_n hB 2 dL_law_966 rfl rfl ?_
  refine g_aload_n hB 0 dL_law_967 rfl rfl ?_
  refine g_iload hB 4 dL_law_968 rfl ?_
  refine g_iconst hB (nI 1) dL_law_970 rfl ?_
  refine g_iadd hB dL_law_971 ?_
  refine g_top (nI (i + 1)) (nI_add _ _) ?_
  refine g_sld hB hX hbl hbA (i + 1) (by omega) (by omega) dL_law_972 ?_
  refine g_aload_n hB 0 dL_law_973 rfl rfl ?_
  refine g_iload hB 4 dL_law_974 rfl ?_
  refine g_iconst hB (nI 2) dL_law_976 rfl ?_
  refine g_iadd hB dL_law_977 ?_
  refine g_top (nI (i + 2)) (nI_add _ _) ?_
  refine g_sld hB hX hbl hbA (i + 2) (by omega) (by omega) dL_law_978 ?_
  refine g_callVI hB (c_X6_approve _ (xs (i + 1)) (xs (i + 2)) nc t hc hnc ht1 htb) k_L_161 rfl yk_X6_approve ⟨Nat.le_of_ble_eq_true rfl, Nat.le_of_ble_eq_true rfl⟩ ⟨(by decide), _, _, _, rfl, rfl, rfl⟩ rfl (Nat.le_of_ble_eq_true rfl) ⟨by show cells + 3 + 0 ≤ 601024; omega, by show slots + 18 + 0 ≤ 7293034; omega⟩ dL_law_979 ?_
  rintro _ _ ⟨rfl, rfl⟩
  exact g_sub [(0, .ref b), (1, .ref (ad 0 0)), (2, .ref (ad 17 0)), (3, .ref (ad 19 0)), (4, .int (nI i)), (5, .int (nI (apC S (xs (i + 1)) (xs (i + 2)) nc t)))] rfl (tl_approve hB (okr (step_approve h hmo (xs (i + 1)) (xs (i + 2))) apC3 rApprove9) ⟨by show cells + 3 + 0 ≤ K; omega, hK.2⟩ ⟨by show slots + 18 + 0 ≤ N; omega, hN.2⟩ kk)
theorem tl_withdraw (hB : MB p s m args meth c cL_law RL 7 D ca SR A) {i K N t mo code : Nat} {T : Mem} (hq : T 17 0 0 = nI code ∧ ∃ ng' nm' nc' t' pa' rk' mo', INV T ng' nm' nc' t' pa' rk' mo' ∧ t' ≤ t + 60 ∧ mo' ≤ mo + 1) (hK : cells ≤ K ∧ K ≤ 601024) (hN : slots ≤ N ∧ N ≤ 7293034) (kk : KX p l e s m args below meth c D ad A Q ca b i t mo K N) : G p l e room_1 s m args below meth c D ad A 7 Q cells slots CNT (SH ad ca T) 1037 [(0, .ref b), (1, .ref (ad 0 0)), (2, .ref (ad 17 0)), (3, .ref (ad 19 0)), (4, .int (nI i)), (5, .int (nI code))] [] := by
  refine g_aload_n hB 2 dL_law_1037 rfl rfl ?_
  refine g_callVI hB (c_X6_thrown _) k_L_114 rfl yk_X6_thrown ⟨Nat.le_of_ble_eq_true rfl, Nat.le_of_ble_eq_true rfl⟩ ⟨(by decide), _, _, _, rfl, rfl, rfl⟩ rfl (Nat.le_of_ble_eq_true rfl) ⟨by show cells + 0 ≤ 601024; omega, by show slots + 0 ≤ 7293034; omega⟩ dL_law_1038 ?_
  rintro _ _ ⟨rfl, rfl⟩
  obtain ⟨q1, ng', nm', nc', t', pa', rk', mo', q4, q5, q6⟩ := hq
  refine g_top (nI code) q1 ?_
  refine g_iload hB 5 dL_law_1041 rfl ?_
  refine g_icmp_eq hB 1048 dL_law_1043 (by decide) (fun _ => ?_) (fun z => absurd rfl z)
  refine g_goto hB 1923 dL_law_1048 (by decide) ?_
  refine g_widen (k := K) (n := N) (by show _ + 0 ≤ K; omega) (by show _ + 0 ≤ N; omega) ?_
  exact g_sub [(0, .ref b), (1, .ref (ad 0 0)), (2, .ref (ad 17 0)), (3, .ref (ad 19 0)), (4, .int (nI i))] rfl (kk _ _ _ _ _ _ _ _ q4 q5 q6)
theorem law_withdraw (hB : MB p s m args meth c cL_law RL 7 D ca SR A) (hX : va_X b L xs s s.heap) (hbl : b < s.heap.size) (hbA : ¬ A b) (hL : L ≤ 2560) (hl : l.stackTraces = false) {i K N ng nm nc t pa rk mo : Nat} {S : Mem} (h : INV S ng nm nc t pa rk mo) (hi : i + 5 ≤ L) (ht60 : t + 60 < 2 ^ 20) (hmo : mo + 1 < 2 ^ 20) (hK : cells + 4 ≤ K ∧ K ≤ 601024) (hN : slots + 24 ≤ N ∧ N ≤ 7293034) (kk : KX p l e s m args below meth c D ad A Q ca b i t mo K N) : G p l e room_1 s m args below meth c D ad A 7 Q cells slots CNT (SH ad ca S) 1015 [(0, .ref b), (1, .ref (ad 0 0)), (2, .ref (ad 17 0)), (3, .ref (ad 19 0)), (4, .int (nI i))] [] := by
  refine g_aload_n hB 1 dL_law_1015 rfl rfl ?_
  refine g_aload_n hB 0 dL_law_1016 rfl rfl ?_
  refine g_iload hB 4 dL_law_1017 rfl ?_
  refine g_iconst hB (nI 1) dL_law_1019 rfl ?_
  refine g_iadd hB dL_law_1020 ?_
  refine g_top (nI (i + 1)) (nI_add _ _) ?_
  refine g_sld hB hX hbl hbA (i + 1) (by omega) (by omega) dL_law_1021 ?_
  refine g_callHSI hB (c_L_withdraw hl S ng nm nc t pa h.1 (xs (i + 1))) k_L_162 yk_L_withdraw ⟨Nat.le_of_ble_eq_true rfl, Nat.le_of_ble_eq_true rfl⟩ rfl (Nat.le_of_ble_eq_true rfl) ⟨by show cells + 2 ≤ 601024; omega, by show slots + 12 ≤ 7293034; omega⟩ dL_law_1022 ?_
  rintro _ _ ⟨rfl, rfl⟩
  refine g_istore hB 5 dL_law_1025 (by decide) ?_
  have hR : RI (TT S (wdC S (xs (i + 1)) nc) (uM S 9 (ix (xs (i + 1))) 4 (nI 3))) ng nm nc t pa := TT_RIv h (uM_hi (by decide) (by decide)) (uM_hi (by decide) (by decide))
  obtain ⟨⟨hg, hng0, hng⟩, ⟨hm, hnm⟩, ⟨hc, hnc⟩, ⟨ht1, htb⟩, ⟨hpa, hpab⟩, hpar, hgr, hTK, htk⟩ := id hR
  refine g_aload_n hB 2 dL_law_1027 rfl rfl ?_
  refine g_aload_n hB 0 dL_law_1028 rfl rfl ?_
  refine g_iload hB 4 dL_law_1029 rfl ?_
  refine g_iconst hB (nI 1) dL_law_1031 rfl ?_
  refine g_iadd hB dL_law_1032 ?_
  refine g_top (nI (i + 1)) (nI_add _ _) ?_
  refine g_sld hB hX hbl hbA (i + 1) (by omega) (by omega) dL_law_1033 ?_
  refine g_callVV hB (c_X6_withdraw _ (xs (i + 1)) nc hc hnc) k_L_164 rfl yk_X6_withdraw ⟨Nat.le_of_ble_eq_true rfl, Nat.le_of_ble_eq_true rfl⟩ ⟨(by decide), _, _, _, rfl, rfl, rfl⟩ rfl (Nat.le_of_ble_eq_true rfl) ⟨by show cells + 2 + 0 ≤ 601024; omega, by show slots + 12 + 0 ≤ 7293034; omega⟩ dL_law_1034 ?_
  rintro _ rfl
  exact g_sub [(0, .ref b), (1, .ref (ad 0 0)), (2, .ref (ad 17 0)), (3, .ref (ad 19 0)), (4, .int (nI i)), (5, .int (nI (wdC S (xs (i + 1)) nc)))] rfl (tl_withdraw hB (step_withdraw h (xs (i + 1))) ⟨by show cells + 2 + 0 ≤ K; omega, hK.2⟩ ⟨by show slots + 12 + 0 ≤ N; omega, hN.2⟩ kk)
theorem tl_exclude (hB : MB p s m args meth c cL_law RL 7 D ca SR A) {i K N t mo code : Nat} {v r : Int32} {T : Mem} (hq : OKR code v t mo r T) (bv : Bool) (hb : v = bI bv) (hK : cells ≤ K ∧ K ≤ 601024) (hN : slots ≤ N ∧ N ≤ 7293034) (kk : KX p l e s m args below meth c D ad A Q ca b i t mo K N) : G p l e room_1 s m args below meth c D ad A 7 Q cells slots CNT (SH ad ca T) 1114 [(0, .ref b), (1, .ref (ad 0 0)), (2, .ref (ad 17 0)), (3, .ref (ad 19 0)), (4, .int (nI i)), (5, .int (nI code))] [.int r] := by
  refine g_istore hB 6 dL_law_1114 (by decide) ?_
  refine g_aload_n hB 2 dL_law_1116 rfl rfl ?_
  refine g_callVI hB (c_X6_thrown _) k_L_114 rfl yk_X6_thrown ⟨Nat.le_of_ble_eq_true rfl, Nat.le_of_ble_eq_true rfl⟩ ⟨(by decide), _, _, _, rfl, rfl, rfl⟩ rfl (Nat.le_of_ble_eq_true rfl) ⟨by show cells + 0 ≤ 601024; omega, by show slots + 0 ≤ 7293034; omega⟩ dL_law_1117 ?_
  rintro _ _ ⟨rfl, rfl⟩
  obtain ⟨q1, q2, q3, ng', nm', nc', t', pa', rk', mo', q4, q5, q6⟩ := hq
  refine g_top (nI code) q1 ?_
  refine g_iload hB 5 dL_law_1120 rfl ?_
  refine g_icmp_eq hB 1127 dL_law_1122 (by decide) (fun _ => ?_) (fun z => absurd rfl z)
  refine g_iload hB 5 dL_law_1127 rfl ?_
  by_cases hc : code = 0
  · refine g_top (nI 0) (by rw [hc]) ?_
    refine g_if_ne hB 1151 dL_law_1129 (by decide) (fun z => absurd rfl z) (fun _ => ?_)
    refine g_aload_n hB 3 dL_law_1132 rfl rfl ?_
    refine g_iconst hB (nI 0) dL_law_1133 rfl ?_
    refine g_laldE hB 19 0 0 (n := 1) (f := fun j => (T 19 0 j).toInt64) (by decide) rfl (by decide) (by decide) dL_law_1134 ?_
    refine g_iload hB 6 dL_law_1135 rfl ?_
    refine g_top (bI bv) ((q3 hc).1.symm.trans hb) ?_
    refine b_if_eq hB bv 1144 dL_law_1137 (by decide) (fun c9 => ?_) (fun c9 => ?_)
    · refine g_lconst2 hB (0) dL_law_1144 rfl ?_
      refine g_lcmp hB dL_law_1145 ?_
      refine g_top 0 (by show lg_cmp (T 19 0 0).toInt64 0 = 0; rw [(q3 hc).2, hb, c9]; decide) ?_
      refine g_if_eq hB 1151 dL_law_1146 (by decide) (fun _ => ?_) (fun z => absurd rfl z)
      refine g_goto hB 1923 dL_law_1151 (by decide) ?_
      refine g_widen (k := K) (n := N) (by show _ + 0 ≤ K; omega) (by show _ + 0 ≤ N; omega) ?_
      exact g_sub [(0, .ref b), (1, .ref (ad 0 0)), (2, .ref (ad 17 0)), (3, .ref (ad 19 0)), (4, .int (nI i))] rfl (kk _ _ _ _ _ _ _ _ q4 q5 q6)
    · refine g_lconst2 hB (1) dL_law_1140 rfl ?_
      refine g_goto hB 1145 dL_law_1141 (by decide) ?_
      refine g_lcmp hB dL_law_1145 ?_
      refine g_top 0 (by show lg_cmp (T 19 0 0).toInt64 1 = 0; rw [(q3 hc).2, hb, c9]; decide) ?_
      refine g_if_eq hB 1151 dL_law_1146 (by decide) (fun _ => ?_) (fun z => absurd rfl z)
      refine g_goto hB 1923 dL_law_1151 (by decide) ?_
      refine g_widen (k := K) (n := N) (by show _ + 0 ≤ K; omega) (by show _ + 0 ≤ N; omega) ?_
      exact g_sub [(0, .ref b), (1, .ref (ad 0 0)), (2, .ref (ad 17 0)), (3, .ref (ad 19 0)), (4, .int (nI i))] rfl (kk _ _ _ _ _ _ _ _ q4 q5 q6)
  · refine g_if_ne hB 1151 dL_law_1129 (by decide) (fun _ => ?_) (fun z => absurd z (fun w9 => hc ((nI_eq (a := code) (b := 0) (by omega) (by decide)).mp w9)))
    refine g_goto hB 1923 dL_law_1151 (by decide) ?_
    refine g_widen (k := K) (n := N) (by show _ + 0 ≤ K; omega) (by show _ + 0 ≤ N; omega) ?_
    exact g_sub [(0, .ref b), (1, .ref (ad 0 0)), (2, .ref (ad 17 0)), (3, .ref (ad 19 0)), (4, .int (nI i))] rfl (kk _ _ _ _ _ _ _ _ q4 q5 q6)
theorem law_exclude (hB : MB p s m args meth c cL_law RL 7 D ca SR A) (hX : va_X b L xs s s.heap) (hbl : b < s.heap.size) (hbA : ¬ A b) (hL : L ≤ 2560) (hl : l.stackTraces = false) {i K N ng nm nc t pa rk mo : Nat} {S : Mem} (h : INV S ng nm nc t pa rk mo) (hi : i + 5 ≤ L) (ht60 : t + 60 < 2 ^ 20) (hmo : mo + 1 < 2 ^ 20) (hK : cells + 4 ≤ K ∧ K ≤ 601024) (hN : slots + 24 ≤ N ∧ N ≤ 7293034) (kk : KX p l e s m args below meth c D ad A Q ca b i t mo K N) : G p l e room_1 s m args below meth c D ad A 7 Q cells slots CNT (SH ad ca S) 1051 [(0, .ref b), (1, .ref (ad 0 0)), (2, .ref (ad 17 0)), (3, .ref (ad 19 0)), (4, .int (nI i))] [] := by
  by_cases hb : xs (i + 3) = 0
  · refine g_aload_n hB 1 dL_law_1051 rfl rfl ?_
    refine g_aload_n hB 0 dL_law_1052 rfl rfl ?_
    refine g_iload hB 4 dL_law_1053 rfl ?_
    refine g_iconst hB (nI 1) dL_law_1055 rfl ?_
    refine g_iadd hB dL_law_1056 ?_
    refine g_top (nI (i + 1)) (nI_add _ _) ?_
    refine g_sld hB hX hbl hbA (i + 1) (by omega) (by omega) dL_law_1057 ?_
    refine g_aload_n hB 0 dL_law_1058 rfl rfl ?_
    refine g_iload hB 4 dL_law_1059 rfl ?_
    refine g_iconst hB (nI 2) dL_law_1061 rfl ?_
    refine g_iadd hB dL_law_1062 ?_
    refine g_top (nI (i + 2)) (nI_add _ _) ?_
    refine g_sld hB hX hbl hbA (i + 2) (by omega) (by omega) dL_law_1063 ?_
    refine g_aload_n hB 0 dL_law_1064 rfl rfl ?_
    refine g_iload hB 4 dL_law_1065 rfl ?_
    refine g_iconst hB (nI 3) dL_law_1067 rfl ?_
    refine g_iadd hB dL_law_1068 ?_
    refine g_top (nI (i + 3)) (nI_add _ _) ?_
    refine g_sld hB hX hbl hbA (i + 3) (by omega) (by omega) dL_law_1069 ?_
    refine g_if_eq hB 1077 dL_law_1070 (by decide) (fun _ => ?_) (fun z => absurd hb z)
    refine g_iconst hB (nI 0) dL_law_1077 rfl ?_
    refine g_top (bI false) rfl ?_
    refine g_aload_n hB 3 dL_law_1078 rfl rfl ?_
    refine g_callHSI hB (c_L_exclude hl S (xs (i + 1)) (xs (i + 2)) false) k_L_165 yk_L_exclude ⟨Nat.le_of_ble_eq_true rfl, Nat.le_of_ble_eq_true rfl⟩ rfl (Nat.le_of_ble_eq_true rfl) ⟨by show cells + 3 ≤ 601024; omega, by show slots + 18 ≤ 7293034; omega⟩ dL_law_1079 ?_
    rintro _ _ ⟨rfl, rfl⟩
    refine g_istore hB 5 dL_law_1082 (by decide) ?_
    have hR : RI (TT S (exC (xs (i + 1)) (xs (i + 2))) (uM (exM S (ix (xs (i + 1))) (ix (xs (i + 2))) false) 19 0 0 (bI (cntI (S 1 2 (ix (xs (i + 1)))) (xs (i + 2)))))) ng nm nc t pa := TT_RI h (exM_hi (by decide)) (exM_hi (by decide))
    obtain ⟨⟨hg, hng0, hng⟩, ⟨hm, hnm⟩, ⟨hc, hnc⟩, ⟨ht1, htb⟩, ⟨hpa, hpab⟩, hpar, hgr, hTK, htk⟩ := id hR
    refine g_aload_n hB 2 dL_law_1084 rfl rfl ?_
    refine g_aload_n hB 0 dL_law_1085 rfl rfl ?_
    refine g_iload hB 4 dL_law_1086 rfl ?_
    refine g_iconst hB (nI 1) dL_law_1088 rfl ?_
    refine g_iadd hB dL_law_1089 ?_
    refine g_top (nI (i + 1)) (nI_add _ _) ?_
    refine g_sld hB hX hbl hbA (i + 1) (by omega) (by omega) dL_law_1090 ?_
    refine g_aload_n hB 0 dL_law_1091 rfl rfl ?_
    refine g_iload hB 4 dL_law_1092 rfl ?_
    refine g_iconst hB (nI 2) dL_law_1094 rfl ?_
    refine g_iadd hB dL_law_1095 ?_
    refine g_top (nI (i + 2)) (nI_add _ _) ?_
    refine g_sld hB hX hbl hbA (i + 2) (by omega) (by omega) dL_law_1096 ?_
    refine g_aload_n hB 0 dL_law_1097 rfl rfl ?_
    refine g_iload hB 4 dL_law_1098 rfl ?_
    refine g_iconst hB (nI 3) dL_law_1100 rfl ?_
    refine g_iadd hB dL_law_1101 ?_
    refine g_top (nI (i + 3)) (nI_add _ _) ?_
    refine g_sld hB hX hbl hbA (i + 3) (by omega) (by omega) dL_law_1102 ?_
    refine g_if_eq hB 1110 dL_law_1103 (by decide) (fun _ => ?_) (fun z => absurd hb z)
    refine g_iconst hB (nI 0) dL_law_1110 rfl ?_
    refine g_top (bI false) rfl ?_
    refine g_callVI hB (c_X6_exclude _ (xs (i + 1)) (xs (i + 2)) false) k_L_168 rfl yk_X6_exclude ⟨Nat.le_of_ble_eq_true rfl, Nat.le_of_ble_eq_true rfl⟩ ⟨(by decide), _, _, _, rfl, rfl, rfl⟩ rfl (Nat.le_of_ble_eq_true rfl) ⟨by show cells + 3 + 0 ≤ 601024; omega, by show slots + 18 + 0 ≤ 7293034; omega⟩ dL_law_1111 ?_
    rintro _ _ ⟨rfl, rfl⟩
    exact g_sub [(0, .ref b), (1, .ref (ad 0 0)), (2, .ref (ad 17 0)), (3, .ref (ad 19 0)), (4, .int (nI i)), (5, .int (nI (exC (xs (i + 1)) (xs (i + 2)))))] rfl (tl_exclude hB (okr (step_exclude h (xs (i + 1)) (xs (i + 2)) false) exC3 rExclude9) (cntI (S 1 2 (ix (xs (i + 1)))) (xs (i + 2))) rfl ⟨by show cells + 3 + 0 ≤ K; omega, hK.2⟩ ⟨by show slots + 18 + 0 ≤ N; omega, hN.2⟩ kk)
  · refine g_aload_n hB 1 dL_law_1051 rfl rfl ?_
    refine g_aload_n hB 0 dL_law_1052 rfl rfl ?_
    refine g_iload hB 4 dL_law_1053 rfl ?_
    refine g_iconst hB (nI 1) dL_law_1055 rfl ?_
    refine g_iadd hB dL_law_1056 ?_
    refine g_top (nI (i + 1)) (nI_add _ _) ?_
    refine g_sld hB hX hbl hbA (i + 1) (by omega) (by omega) dL_law_1057 ?_
    refine g_aload_n hB 0 dL_law_1058 rfl rfl ?_
    refine g_iload hB 4 dL_law_1059 rfl ?_
    refine g_iconst hB (nI 2) dL_law_1061 rfl ?_
    refine g_iadd hB dL_law_1062 ?_
    refine g_top (nI (i + 2)) (nI_add _ _) ?_
    refine g_sld hB hX hbl hbA (i + 2) (by omega) (by omega) dL_law_1063 ?_
    refine g_aload_n hB 0 dL_law_1064 rfl rfl ?_
    refine g_iload hB 4 dL_law_1065 rfl ?_
    refine g_iconst hB (nI 3) dL_law_1067 rfl ?_
    refine g_iadd hB dL_law_1068 ?_
    refine g_top (nI (i + 3)) (nI_add _ _) ?_
    refine g_sld hB hX hbl hbA (i + 3) (by omega) (by omega) dL_law_1069 ?_
    refine g_if_eq hB 1077 dL_law_1070 (by decide) (fun z => absurd z hb) (fun _ => ?_)
    refine g_iconst hB (nI 1) dL_law_1073 rfl ?_
    refine g_top (bI true) rfl ?_
    refine g_goto hB 1078 dL_law_1074 (by decide) ?_
    refine g_aload_n hB 3 dL_law_1078 rfl rfl ?_
    refine g_callHSI hB (c_L_exclude hl S (xs (i + 1)) (xs (i + 2)) true) k_L_165 yk_L_exclude ⟨Nat.le_of_ble_eq_true rfl, Nat.le_of_ble_eq_true rfl⟩ rfl (Nat.le_of_ble_eq_true rfl) ⟨by show cells + 3 ≤ 601024; omega, by show slots + 18 ≤ 7293034; omega⟩ dL_law_1079 ?_
    rintro _ _ ⟨rfl, rfl⟩
    refine g_istore hB 5 dL_law_1082 (by decide) ?_
    have hR : RI (TT S (exC (xs (i + 1)) (xs (i + 2))) (uM (exM S (ix (xs (i + 1))) (ix (xs (i + 2))) true) 19 0 0 (bI (cntI (S 1 2 (ix (xs (i + 1)))) (xs (i + 2)))))) ng nm nc t pa := TT_RI h (exM_hi (by decide)) (exM_hi (by decide))
    obtain ⟨⟨hg, hng0, hng⟩, ⟨hm, hnm⟩, ⟨hc, hnc⟩, ⟨ht1, htb⟩, ⟨hpa, hpab⟩, hpar, hgr, hTK, htk⟩ := id hR
    refine g_aload_n hB 2 dL_law_1084 rfl rfl ?_
    refine g_aload_n hB 0 dL_law_1085 rfl rfl ?_
    refine g_iload hB 4 dL_law_1086 rfl ?_
    refine g_iconst hB (nI 1) dL_law_1088 rfl ?_
    refine g_iadd hB dL_law_1089 ?_
    refine g_top (nI (i + 1)) (nI_add _ _) ?_
    refine g_sld hB hX hbl hbA (i + 1) (by omega) (by omega) dL_law_1090 ?_
    refine g_aload_n hB 0 dL_law_1091 rfl rfl ?_
    refine g_iload hB 4 dL_law_1092 rfl ?_
    refine g_iconst hB (nI 2) dL_law_1094 rfl ?_
    refine g_iadd hB dL_law_1095 ?_
    refine g_top (nI (i + 2)) (nI_add _ _) ?_
    refine g_sld hB hX hbl hbA (i + 2) (by omega) (by omega) dL_law_1096 ?_
    refine g_aload_n hB 0 dL_law_1097 rfl rfl ?_
    refine g_iload hB 4 dL_law_1098 rfl ?_
    refine g_iconst hB (nI 3) dL_law_1100 rfl ?_
    refine g_iadd hB dL_law_1101 ?_
    refine g_top (nI (i + 3)) (nI_add _ _) ?_
    refine g_sld hB hX hbl hbA (i + 3) (by omega) (by omega) dL_law_1102 ?_
    refine g_if_eq hB 1110 dL_law_1103 (by decide) (fun z => absurd z hb) (fun _ => ?_)
    refine g_iconst hB (nI 1) dL_law_1106 rfl ?_
    refine g_top (bI true) rfl ?_
    refine g_goto hB 1111 dL_law_1107 (by decide) ?_
    refine g_callVI hB (c_X6_exclude _ (xs (i + 1)) (xs (i + 2)) true) k_L_168 rfl yk_X6_exclude ⟨Nat.le_of_ble_eq_true rfl, Nat.le_of_ble_eq_true rfl⟩ ⟨(by decide), _, _, _, rfl, rfl, rfl⟩ rfl (Nat.le_of_ble_eq_true rfl) ⟨by show cells + 3 + 0 ≤ 601024; omega, by show slots + 18 + 0 ≤ 7293034; omega⟩ dL_law_1111 ?_
    rintro _ _ ⟨rfl, rfl⟩
    exact g_sub [(0, .ref b), (1, .ref (ad 0 0)), (2, .ref (ad 17 0)), (3, .ref (ad 19 0)), (4, .int (nI i)), (5, .int (nI (exC (xs (i + 1)) (xs (i + 2)))))] rfl (tl_exclude hB (okr (step_exclude h (xs (i + 1)) (xs (i + 2)) true) exC3 rExclude9) (cntI (S 1 2 (ix (xs (i + 1)))) (xs (i + 2))) rfl ⟨by show cells + 3 + 0 ≤ K; omega, hK.2⟩ ⟨by show slots + 18 + 0 ≤ N; omega, hN.2⟩ kk)
end LC
