/-! the class: changes, heads, outcome -/
section X3
variable {l : Launch} {D : va_G} {ad : Nat → Nat → Nat} {ca : Nat → ClassId} {SR : List (String × Nat × String)}
theorem c_X0_begin (S : Mem) (c : Nat) (hc40 : c < 40) (p q w t : Int32) : CV l yX0_begin cX0_begin 5 none { frames := 0, cells := 0, slots := 0, locals := 0 } D ad CNT ca SR (SH ad ca S) [.ref (ad 9 c), .int (p), .int (q), .int (w), .int (t)] (PM ad ca (uM (uM (uM (uM S 9 c 0 p) 9 c 1 q) 9 c 2 w) 9 c 3 t)) := by
  refine CV.of _ RX0 (by decide +kernel) rfl (Nat.le_of_ble_eq_true rfl) ?_
  intro p9 e9 s9 m9 a9 b9 me9 c9 A9 hB hr hnm9
  refine g_aload_n hB 0 dX0_begin_0 rfl rfl ?_
  refine g_iload_n hB 1 dX0_begin_1 rfl rfl ?_
  refine s_put (ci := 0) (T := TX0) (N := 8) hB in_X0 rfl tyX0 tyX0_ok nmX0 9 c 0 (show c < 40 by first | assumption | omega) (by decide) rfl rfl tw_fl_X0_28 rfl rfl rfl (Nat.le_of_ble_eq_true rfl) dX0_begin_2 ?_
  refine g_aload_n hB 0 dX0_begin_5 rfl rfl ?_
  refine g_iload_n hB 2 dX0_begin_6 rfl rfl ?_
  refine s_put (ci := 0) (T := TX0) (N := 8) hB in_X0 rfl tyX0 tyX0_ok nmX0 9 c 1 (show c < 40 by first | assumption | omega) (by decide) rfl rfl tw_fl_X0_31 rfl rfl rfl (Nat.le_of_ble_eq_true rfl) dX0_begin_7 ?_
  refine g_aload_n hB 0 dX0_begin_10 rfl rfl ?_
  refine g_iload_n hB 3 dX0_begin_11 rfl rfl ?_
  refine s_put (ci := 0) (T := TX0) (N := 8) hB in_X0 rfl tyX0 tyX0_ok nmX0 9 c 2 (show c < 40 by first | assumption | omega) (by decide) rfl rfl tw_fl_X0_34 rfl rfl rfl (Nat.le_of_ble_eq_true rfl) dX0_begin_12 ?_
  refine g_aload_n hB 0 dX0_begin_15 rfl rfl ?_
  refine g_iload hB 4 dX0_begin_16 rfl ?_
  refine s_put (ci := 0) (T := TX0) (N := 8) hB in_X0 rfl tyX0 tyX0_ok nmX0 9 c 3 (show c < 40 by first | assumption | omega) (by decide) rfl rfl tw_fl_X0_37 rfl rfl rfl (Nat.le_of_ble_eq_true rfl) dX0_begin_18 ?_
  exact g_vret hB hr (Nat.le_of_ble_eq_true rfl) (Nat.le_of_ble_eq_true rfl) (rfl) dX0_begin_21
theorem c_X0_canBeApprovedBy (S : Mem) (c : Nat) (hc40 : c < 40) (p : Nat) : CI l yX0_canBeApprovedBy cX0_canBeApprovedBy 2 (some .boolean) { frames := 1, cells := 0, slots := 0, locals := 21 } D ad CNT ca SR (SH ad ca S) [.ref (ad 9 c), .int (nI p)] (PR ad ca (bI (canB S c p)) S) := by
  refine CI.of _ RX0 (by decide +kernel) rfl (Nat.le_of_ble_eq_true rfl) ?_
  intro p9 e9 s9 m9 a9 b9 me9 c9 A9 hB hr hnm9
  refine g_iload_n hB 1 dX0_canBeApprovedBy_0 rfl rfl ?_
  refine g_aload_n hB 0 dX0_canBeApprovedBy_1 rfl rfl ?_
  refine g_get (ci := 0) (T := TX0) (N := 8) hB in_X0 rfl 9 c 0 (show c < 40 by first | assumption | omega) (by decide) rfl tw_fl_X0_28 rfl dX0_canBeApprovedBy_2 ?_
  refine g_icmp_eq hB 31 dX0_canBeApprovedBy_5 (by decide) (fun c_5 => ?_) (fun c_5 => ?_)
  · have e : canB S c p = false := by unfold canB; rw [decide_eq_true c_5]; rfl
    refine g_iconst hB (nI 0) dX0_canBeApprovedBy_31 rfl ?_
    exact g_iret hB hr rfl (Nat.le_of_ble_eq_true rfl) (Nat.le_of_ble_eq_true rfl) (⟨by rw [e]; rfl, rfl⟩) dX0_canBeApprovedBy_32
  · refine g_aload_n hB 0 dX0_canBeApprovedBy_8 rfl rfl ?_
    refine g_get (ci := 0) (T := TX0) (N := 8) hB in_X0 rfl 9 c 4 (show c < 40 by first | assumption | omega) (by decide) rfl tw_fl_X0_9 rfl dX0_canBeApprovedBy_9 ?_
    refine g_iconst hB (nI 3) dX0_canBeApprovedBy_12 rfl ?_
    refine g_icmp_eq hB 31 dX0_canBeApprovedBy_13 (by decide) (fun c_13 => ?_) (fun c_13 => ?_)
    · have e : canB S c p = false := by unfold canB; rw [decide_eq_false c_5, decide_eq_true c_13]; rfl
      refine g_iconst hB (nI 0) dX0_canBeApprovedBy_31 rfl ?_
      exact g_iret hB hr rfl (Nat.le_of_ble_eq_true rfl) (Nat.le_of_ble_eq_true rfl) (⟨by rw [e]; rfl, rfl⟩) dX0_canBeApprovedBy_32
    · refine g_aload_n hB 0 dX0_canBeApprovedBy_16 rfl rfl ?_
      refine g_get (ci := 0) (T := TX0) (N := 8) hB in_X0 rfl 9 c 5 (show c < 40 by first | assumption | omega) (by decide) rfl tw_fl_X0_40 rfl dX0_canBeApprovedBy_17 ?_
      refine g_iload_n hB 1 dX0_canBeApprovedBy_20 rfl rfl ?_
      refine g_callNI hB (host := RX5) (c_X5_contains _ _ _) tw_code_X5_contains (by decide) tw_ini_X5 tw_st_X5_contains yk_X5_contains ⟨Nat.le_of_ble_eq_true rfl, Nat.le_of_ble_eq_true rfl⟩ rfl (Nat.le_of_ble_eq_true rfl) ⟨Nat.le_of_ble_eq_true rfl, Nat.le_of_ble_eq_true rfl⟩ dX0_canBeApprovedBy_21 ?_
      rintro _ _ ⟨rfl, rfl⟩
      refine b_if_ne hB (cntI (S 9 c 5) (nI p)) 31 dX0_canBeApprovedBy_24 (by decide) (fun c_24 => ?_) (fun c_24 => ?_)
      · have e : canB S c p = false := by unfold canB; rw [decide_eq_false c_5, decide_eq_false c_13, c_24]; rfl
        refine g_iconst hB (nI 0) dX0_canBeApprovedBy_31 rfl ?_
        exact g_iret hB hr rfl (Nat.le_of_ble_eq_true rfl) (Nat.le_of_ble_eq_true rfl) (⟨by rw [e]; rfl, rfl⟩) dX0_canBeApprovedBy_32
      · have e : canB S c p = true := by unfold canB; rw [decide_eq_false c_5, decide_eq_false c_13, c_24]; rfl
        refine g_iconst hB (nI 1) dX0_canBeApprovedBy_27 rfl ?_
        refine g_goto hB 32 dX0_canBeApprovedBy_28 (by decide) ?_
        exact g_iret hB hr rfl (Nat.le_of_ble_eq_true rfl) (Nat.le_of_ble_eq_true rfl) (⟨by rw [e]; rfl, rfl⟩) dX0_canBeApprovedBy_32
theorem c_X0_addApproval (S : Mem) (c : Nat) (hc40 : c < 40) (p : Nat) (hp : p < 8) (d m : Int32) : CV l yX0_addApproval cX0_addApproval 4 none { frames := 1, cells := 0, slots := 0, locals := 22 } D ad CNT ca SR (SH ad ca S) [.ref (ad 9 c), .int (nI p), .int (d), .int (m)] (PM ad ca (adM S c p d m)) := by
  refine CV.of _ RX0 (by decide +kernel) rfl (Nat.le_of_ble_eq_true rfl) ?_
  intro p9 e9 s9 m9 a9 b9 me9 c9 A9 hB hr hnm9
  refine g_aload_n hB 0 dX0_addApproval_0 rfl rfl ?_
  refine g_aload_n hB 0 dX0_addApproval_1 rfl rfl ?_
  refine g_get (ci := 0) (T := TX0) (N := 8) hB in_X0 rfl 9 c 5 (show c < 40 by first | assumption | omega) (by decide) rfl tw_fl_X0_40 rfl dX0_addApproval_2 ?_
  refine g_iload_n hB 1 dX0_addApproval_5 rfl rfl ?_
  refine g_iconst hB (nI 1) dX0_addApproval_6 rfl ?_
  refine g_callNI hB (host := RX5) (c_X5_with _ _ _ true) tw_code_X5_with (by decide) tw_ini_X5 tw_st_X5_with yk_X5_with ⟨Nat.le_of_ble_eq_true rfl, Nat.le_of_ble_eq_true rfl⟩ rfl (Nat.le_of_ble_eq_true rfl) ⟨Nat.le_of_ble_eq_true rfl, Nat.le_of_ble_eq_true rfl⟩ dX0_addApproval_7 ?_
  rintro _ _ ⟨rfl, rfl⟩
  refine s_put (ci := 0) (T := TX0) (N := 8) hB in_X0 rfl tyX0 tyX0_ok nmX0 9 c 5 (show c < 40 by first | assumption | omega) (by decide) rfl rfl tw_fl_X0_40 rfl rfl rfl (Nat.le_of_ble_eq_true rfl) dX0_addApproval_10 ?_
  refine g_aload_n hB 0 dX0_addApproval_13 rfl rfl ?_
  refine g_get (ci := 0) (T := TX0) (N := 8) hB in_X0 rfl 9 c 6 (show c < 40 by first | assumption | omega) (by decide) rfl tw_fl_X0_15 rfl dX0_addApproval_14 ?_
  refine g_iload_n hB 1 dX0_addApproval_17 rfl rfl ?_
  refine g_iload_n hB 2 dX0_addApproval_18 rfl rfl ?_
  refine s_iast hB 10 c p (n := 8) (show c < 40 by first | assumption | omega) (fun _ => rfl) (by first | assumption | omega) (Nat.le_of_ble_eq_true rfl) dX0_addApproval_19 ?_
  refine g_aload_n hB 0 dX0_addApproval_20 rfl rfl ?_
  refine g_get (ci := 0) (T := TX0) (N := 8) hB in_X0 rfl 9 c 7 (show c < 40 by first | assumption | omega) (by decide) rfl tw_fl_X0_19 rfl dX0_addApproval_21 ?_
  refine g_iload_n hB 1 dX0_addApproval_24 rfl rfl ?_
  refine g_iload_n hB 3 dX0_addApproval_25 rfl rfl ?_
  refine s_iast hB 11 c p (n := 8) (show c < 40 by first | assumption | omega) (fun _ => rfl) (by first | assumption | omega) (Nat.le_of_ble_eq_true rfl) dX0_addApproval_26 ?_
  exact g_vret hB hr (Nat.le_of_ble_eq_true rfl) (Nat.le_of_ble_eq_true rfl) (rfl) dX0_addApproval_27
theorem c_X0_countGood (S : Mem) (c : Nat) (hc40 : c < 40) : CI l yX0_countGood cX0_countGood 1 (some .int) { frames := 1, cells := 0, slots := 0, locals := 20 } D ad CNT ca SR (SH ad ca S) [.ref (ad 9 c)] (PR ad ca (bcF (S 9 c 5)) S) := by
  refine CI.of _ RX0 (by decide +kernel) rfl (Nat.le_of_ble_eq_true rfl) ?_
  intro p9 e9 s9 m9 a9 b9 me9 c9 A9 hB hr hnm9
  refine g_aload_n hB 0 dX0_countGood_0 rfl rfl ?_
  refine g_get (ci := 0) (T := TX0) (N := 8) hB in_X0 rfl 9 c 5 (show c < 40 by first | assumption | omega) (by decide) rfl tw_fl_X0_40 rfl dX0_countGood_1 ?_
  refine g_callSI hB (c_J6_bitCount_0f7a4 _ _) k_X0_51 yk_J6_bitCount_0f7a4 ⟨Nat.le_of_ble_eq_true rfl, Nat.le_of_ble_eq_true rfl⟩ rfl (Nat.le_of_ble_eq_true rfl) ⟨Nat.le_of_ble_eq_true rfl, Nat.le_of_ble_eq_true rfl⟩ dX0_countGood_4 ?_
  rintro _ _ ⟨rfl, rfl⟩
  exact g_iret hB hr rfl (Nat.le_of_ble_eq_true rfl) (Nat.le_of_ble_eq_true rfl) (⟨rfl, rfl⟩) dX0_countGood_7

theorem c_X0_loseByLeaving (S : Mem) (c : Nat) (hc40 : c < 40) (p : Nat) (hp : p < 8) (d : Int32) : CI l yX0_loseByLeaving cX0_loseByLeaving 4 (some .boolean) { frames := 2, cells := 0, slots := 0, locals := 40 } D ad CNT ca SR (SH ad ca S) [.ref (ad 9 c), .int (nI p), .int (d)] (PR ad ca (bI (lB S c p d)) (lL S c p d)) := by
  refine CI.of _ RX0 (by decide +kernel) rfl (Nat.le_of_ble_eq_true rfl) ?_
  intro p9 e9 s9 m9 a9 b9 me9 c9 A9 hB hr hnm9
  obtain ⟨hd, hhd⟩ : ∃ b, b = decide (S 9 c 4 = nI 1) := ⟨_, rfl⟩
  have J95 : ∀ T, T = lL S c p d → G p9 l e9 { frames := 2, cells := 0, slots := 0, locals := 40 } s9 m9 a9 b9 me9 c9 D ad A9 4 (MQ b9 (va_Qi (PR ad ca (bI (lB S c p d)) (lL S c p d)) (fun E' t => WW D ad CNT A9 E' t.heap) A9) a9 s9 0 0 A9) 0 0 CNT (SH ad ca (T)) 95 [(0, .ref (ad 9 c)), (1, .int (nI p)), (2, .int (d)), (3, .int (bI (hd)))] [] := by
    intro T hT
    refine g_iload_n hB 3 dX0_loseByLeaving_95 rfl rfl ?_
    refine b_if_eq hB (hd) 111 dX0_loseByLeaving_96 (by decide) (fun c_96 => ?_) (fun c_96 => ?_)
    · have e : lB S c p d = false := by unfold lB; rw [← hhd, c_96]; rfl
      refine g_iconst hB (nI 0) dX0_loseByLeaving_111 rfl ?_
      exact g_iret hB hr rfl (Nat.le_of_ble_eq_true rfl) (Nat.le_of_ble_eq_true rfl) (⟨by rw [e]; rfl, by rw [hT]⟩) dX0_loseByLeaving_112
    · refine g_aload_n hB 0 dX0_loseByLeaving_99 rfl rfl ?_
      refine g_get (ci := 0) (T := TX0) (N := 8) hB in_X0 rfl 9 c 4 (show c < 40 by first | assumption | omega) (by decide) rfl tw_fl_X0_9 rfl dX0_loseByLeaving_100 ?_
      refine g_iconst hB (nI 1) dX0_loseByLeaving_103 rfl ?_
      refine g_icmp_eq hB 111 dX0_loseByLeaving_104 (by decide) (fun c_104 => ?_) (fun c_104 => ?_)
      · have e : lB S c p d = false := by unfold lB; rw [← hhd, ← hT, c_96, decide_eq_false (fun z => z c_104)]; rfl
        refine g_iconst hB (nI 0) dX0_loseByLeaving_111 rfl ?_
        exact g_iret hB hr rfl (Nat.le_of_ble_eq_true rfl) (Nat.le_of_ble_eq_true rfl) (⟨by rw [e]; rfl, by rw [hT]⟩) dX0_loseByLeaving_112
      · have e : lB S c p d = true := by unfold lB; rw [← hhd, ← hT, c_96, decide_eq_true c_104]; rfl
        refine g_iconst hB (nI 1) dX0_loseByLeaving_107 rfl ?_
        refine g_goto hB 112 dX0_loseByLeaving_108 (by decide) ?_
        exact g_iret hB hr rfl (Nat.le_of_ble_eq_true rfl) (Nat.le_of_ble_eq_true rfl) (⟨by rw [e]; rfl, by rw [hT]⟩) dX0_loseByLeaving_112
  have J51 : ∀ T, T = lG S c p d → G p9 l e9 { frames := 2, cells := 0, slots := 0, locals := 40 } s9 m9 a9 b9 me9 c9 D ad A9 4 (MQ b9 (va_Qi (PR ad ca (bI (lB S c p d)) (lL S c p d)) (fun E' t => WW D ad CNT A9 E' t.heap) A9) a9 s9 0 0 A9) 0 0 CNT (SH ad ca (T)) 51 [(0, .ref (ad 9 c)), (1, .int (nI p)), (2, .int (d)), (3, .int (bI (hd)))] [] := by
    intro T hT
    have hv : lL S c p d = lL2 T c p d hd := by unfold lL; rw [← hhd, ← hT]
    refine g_aload_n hB 0 dX0_loseByLeaving_51 rfl rfl ?_
    refine g_get (ci := 0) (T := TX0) (N := 8) hB in_X0 rfl 9 c 0 (show c < 40 by first | assumption | omega) (by decide) rfl tw_fl_X0_28 rfl dX0_loseByLeaving_52 ?_
    refine g_iload_n hB 1 dX0_loseByLeaving_55 rfl rfl ?_
    refine g_icmp_ne hB 78 dX0_loseByLeaving_56 (by decide) (fun c_56 => ?_) (fun c_56 => ?_)
    · have e5 : (decide (T 9 c 0 = nI p) && decide (d - T 9 c 3 < nI 30)) = false := by rw [decide_eq_false c_56]; rfl
      refine g_iload_n hB 3 dX0_loseByLeaving_78 rfl rfl ?_
      refine b_if_eq hB (hd) 95 dX0_loseByLeaving_79 (by decide) (fun c_79 => ?_) (fun c_79 => ?_)
      · have e6 : (hd && decide (bcF (T 9 c 5) < nI 2)) = false := by rw [c_79]; rfl
        refine g_sub _ rfl (J95 _ ?_)
        rw [hv]
        unfold lL2
        rw [e5, e6]
        rfl
      · refine g_aload_n hB 0 dX0_loseByLeaving_82 rfl rfl ?_
        refine g_callVI hB (c_X0_countGood _ c hc40) k_X0_57 rfl yk_X0_countGood ⟨Nat.le_of_ble_eq_true rfl, Nat.le_of_ble_eq_true rfl⟩ ⟨(show c < 40 by first | assumption | omega), _, _, _, rfl, rfl, rfl⟩ rfl (Nat.le_of_ble_eq_true rfl) ⟨Nat.le_of_ble_eq_true rfl, Nat.le_of_ble_eq_true rfl⟩ dX0_loseByLeaving_83 ?_
        rintro _ _ ⟨rfl, rfl⟩
        refine g_iconst hB (nI 2) dX0_loseByLeaving_86 rfl ?_
        refine g_icmp_ge hB 95 dX0_loseByLeaving_87 (by decide) (fun c_87 => ?_) (fun c_87 => ?_)
        · have e6 : (hd && decide (bcF (T 9 c 5) < nI 2)) = false := by rw [decide_eq_false (Int32.not_lt.mpr c_87), Bool.and_false]
          refine g_sub _ rfl (J95 _ ?_)
          rw [hv]
          unfold lL2
          rw [e5, e6]
          rfl
        · have e6 : (hd && decide (bcF (T 9 c 5) < nI 2)) = true := by rw [c_79, decide_eq_true (Int32.not_le.mp c_87)]; rfl
          refine g_aload_n hB 0 dX0_loseByLeaving_90 rfl rfl ?_
          refine g_iconst hB (nI 2) dX0_loseByLeaving_91 rfl ?_
          refine s_put (ci := 0) (T := TX0) (N := 8) hB in_X0 rfl tyX0 tyX0_ok nmX0 9 c 4 (show c < 40 by first | assumption | omega) (by decide) rfl rfl tw_fl_X0_9 rfl rfl rfl (Nat.le_of_ble_eq_true rfl) dX0_loseByLeaving_92 ?_
          refine g_sub _ rfl (J95 _ ?_)
          rw [hv]
          unfold lL2
          rw [e5, e6]
          rfl
    · refine g_iload_n hB 2 dX0_loseByLeaving_59 rfl rfl ?_
      refine g_aload_n hB 0 dX0_loseByLeaving_60 rfl rfl ?_
      refine g_get (ci := 0) (T := TX0) (N := 8) hB in_X0 rfl 9 c 3 (show c < 40 by first | assumption | omega) (by decide) rfl tw_fl_X0_37 rfl dX0_loseByLeaving_61 ?_
      refine g_isub hB dX0_loseByLeaving_64 ?_
      refine g_bipush hB (nI 30) dX0_loseByLeaving_65 rfl ?_
      refine g_icmp_ge hB 78 dX0_loseByLeaving_67 (by decide) (fun c_67 => ?_) (fun c_67 => ?_)
      · have e5 : (decide (T 9 c 0 = nI p) && decide (d - T 9 c 3 < nI 30)) = false := by rw [decide_eq_false (Int32.not_lt.mpr c_67), Bool.and_false]
        refine g_iload_n hB 3 dX0_loseByLeaving_78 rfl rfl ?_
        refine b_if_eq hB (hd) 95 dX0_loseByLeaving_79 (by decide) (fun c_79 => ?_) (fun c_79 => ?_)
        · have e6 : (hd && decide (bcF (T 9 c 5) < nI 2)) = false := by rw [c_79]; rfl
          refine g_sub _ rfl (J95 _ ?_)
          rw [hv]
          unfold lL2
          rw [e5, e6]
          rfl
        · refine g_aload_n hB 0 dX0_loseByLeaving_82 rfl rfl ?_
          refine g_callVI hB (c_X0_countGood _ c hc40) k_X0_57 rfl yk_X0_countGood ⟨Nat.le_of_ble_eq_true rfl, Nat.le_of_ble_eq_true rfl⟩ ⟨(show c < 40 by first | assumption | omega), _, _, _, rfl, rfl, rfl⟩ rfl (Nat.le_of_ble_eq_true rfl) ⟨Nat.le_of_ble_eq_true rfl, Nat.le_of_ble_eq_true rfl⟩ dX0_loseByLeaving_83 ?_
          rintro _ _ ⟨rfl, rfl⟩
          refine g_iconst hB (nI 2) dX0_loseByLeaving_86 rfl ?_
          refine g_icmp_ge hB 95 dX0_loseByLeaving_87 (by decide) (fun c_87 => ?_) (fun c_87 => ?_)
          · have e6 : (hd && decide (bcF (T 9 c 5) < nI 2)) = false := by rw [decide_eq_false (Int32.not_lt.mpr c_87), Bool.and_false]
            refine g_sub _ rfl (J95 _ ?_)
            rw [hv]
            unfold lL2
            rw [e5, e6]
            rfl
          · have e6 : (hd && decide (bcF (T 9 c 5) < nI 2)) = true := by rw [c_79, decide_eq_true (Int32.not_le.mp c_87)]; rfl
            refine g_aload_n hB 0 dX0_loseByLeaving_90 rfl rfl ?_
            refine g_iconst hB (nI 2) dX0_loseByLeaving_91 rfl ?_
            refine s_put (ci := 0) (T := TX0) (N := 8) hB in_X0 rfl tyX0 tyX0_ok nmX0 9 c 4 (show c < 40 by first | assumption | omega) (by decide) rfl rfl tw_fl_X0_9 rfl rfl rfl (Nat.le_of_ble_eq_true rfl) dX0_loseByLeaving_92 ?_
            refine g_sub _ rfl (J95 _ ?_)
            rw [hv]
            unfold lL2
            rw [e5, e6]
            rfl
      · have e5 : (decide (T 9 c 0 = nI p) && decide (d - T 9 c 3 < nI 30)) = true := by rw [decide_eq_true c_56, decide_eq_true (Int32.not_le.mp c_67)]; rfl
        refine g_aload_n hB 0 dX0_loseByLeaving_70 rfl rfl ?_
        refine g_iconst hB (nI 3) dX0_loseByLeaving_71 rfl ?_
        refine s_put (ci := 0) (T := TX0) (N := 8) hB in_X0 rfl tyX0 tyX0_ok nmX0 9 c 4 (show c < 40 by first | assumption | omega) (by decide) rfl rfl tw_fl_X0_9 rfl rfl rfl (Nat.le_of_ble_eq_true rfl) dX0_loseByLeaving_72 ?_
        refine g_goto hB 95 dX0_loseByLeaving_75 (by decide) ?_
        refine g_sub _ rfl (J95 _ ?_)
        rw [hv]
        unfold lL2
        rw [e5]
        rfl
  refine g_aload_n hB 0 dX0_loseByLeaving_0 rfl rfl ?_
  refine g_get (ci := 0) (T := TX0) (N := 8) hB in_X0 rfl 9 c 4 (show c < 40 by first | assumption | omega) (by decide) rfl tw_fl_X0_9 rfl dX0_loseByLeaving_1 ?_
  refine g_iconst hB (nI 1) dX0_loseByLeaving_4 rfl ?_
  refine g_icmp_ne hB 12 dX0_loseByLeaving_5 (by decide) (fun c_5 => ?_) (fun c_5 => ?_)
  · have hq : nI 0 = bI hd := by rw [hhd, decide_eq_false c_5]; rfl
    refine g_iconst hB (nI 0) dX0_loseByLeaving_12 rfl ?_
    refine g_istore_n hB 3 dX0_loseByLeaving_13 rfl (by decide) ?_
    refine g_aload_n hB 0 dX0_loseByLeaving_14 rfl rfl ?_
    refine g_get (ci := 0) (T := TX0) (N := 8) hB in_X0 rfl 9 c 5 (show c < 40 by first | assumption | omega) (by decide) rfl tw_fl_X0_40 rfl dX0_loseByLeaving_15 ?_
    refine g_iload_n hB 1 dX0_loseByLeaving_18 rfl rfl ?_
    refine g_callNI hB (host := RX5) (c_X5_contains _ _ _) tw_code_X5_contains (by decide) tw_ini_X5 tw_st_X5_contains yk_X5_contains ⟨Nat.le_of_ble_eq_true rfl, Nat.le_of_ble_eq_true rfl⟩ rfl (Nat.le_of_ble_eq_true rfl) ⟨Nat.le_of_ble_eq_true rfl, Nat.le_of_ble_eq_true rfl⟩ dX0_loseByLeaving_19 ?_
    rintro _ _ ⟨rfl, rfl⟩
    refine b_if_eq hB (cntI (S 9 c 5) (nI p)) 51 dX0_loseByLeaving_22 (by decide) (fun c_22 => ?_) (fun c_22 => ?_)
    · have e2 : (cntI (S 9 c 5) (nI p) && decide (d - S 10 c p < nI 30)) = false := by rw [c_22]; rfl
      refine g_sub [(0, .ref (ad 9 c)), (1, .int (nI p)), (2, .int d), (3, .int (bI hd))] (by rw [← hq]; rfl) (J51 _ ?_)
      unfold lG
      rw [e2]
      rfl
    · refine g_iload_n hB 2 dX0_loseByLeaving_25 rfl rfl ?_
      refine g_aload_n hB 0 dX0_loseByLeaving_26 rfl rfl ?_
      refine g_get (ci := 0) (T := TX0) (N := 8) hB in_X0 rfl 9 c 6 (show c < 40 by first | assumption | omega) (by decide) rfl tw_fl_X0_15 rfl dX0_loseByLeaving_27 ?_
      refine g_iload_n hB 1 dX0_loseByLeaving_30 rfl rfl ?_
      refine g_iald hB 10 c p (n := 8) (show c < 40 by first | assumption | omega) rfl (by first | assumption | omega) (Nat.le_of_ble_eq_true rfl) dX0_loseByLeaving_31 ?_
      refine g_isub hB dX0_loseByLeaving_32 ?_
      refine g_bipush hB (nI 30) dX0_loseByLeaving_33 rfl ?_
      refine g_icmp_ge hB 51 dX0_loseByLeaving_35 (by decide) (fun c_35 => ?_) (fun c_35 => ?_)
      · have e2 : (cntI (S 9 c 5) (nI p) && decide (d - S 10 c p < nI 30)) = false := by rw [decide_eq_false (Int32.not_lt.mpr c_35), Bool.and_false]
        refine g_sub [(0, .ref (ad 9 c)), (1, .int (nI p)), (2, .int d), (3, .int (bI hd))] (by rw [← hq]; rfl) (J51 _ ?_)
        unfold lG
        rw [e2]
        rfl
      · have e2 : (cntI (S 9 c 5) (nI p) && decide (d - S 10 c p < nI 30)) = true := by rw [c_22, decide_eq_true (Int32.not_le.mp c_35)]; rfl
        refine g_aload_n hB 0 dX0_loseByLeaving_38 rfl rfl ?_
        refine g_aload_n hB 0 dX0_loseByLeaving_39 rfl rfl ?_
        refine g_get (ci := 0) (T := TX0) (N := 8) hB in_X0 rfl 9 c 5 (show c < 40 by first | assumption | omega) (by decide) rfl tw_fl_X0_40 rfl dX0_loseByLeaving_40 ?_
        refine g_iload_n hB 1 dX0_loseByLeaving_43 rfl rfl ?_
        refine g_iconst hB (nI 0) dX0_loseByLeaving_44 rfl ?_
        refine g_callNI hB (host := RX5) (c_X5_with _ _ _ false) tw_code_X5_with (by decide) tw_ini_X5 tw_st_X5_with yk_X5_with ⟨Nat.le_of_ble_eq_true rfl, Nat.le_of_ble_eq_true rfl⟩ rfl (Nat.le_of_ble_eq_true rfl) ⟨Nat.le_of_ble_eq_true rfl, Nat.le_of_ble_eq_true rfl⟩ dX0_loseByLeaving_45 ?_
        rintro _ _ ⟨rfl, rfl⟩
        refine s_put (ci := 0) (T := TX0) (N := 8) hB in_X0 rfl tyX0 tyX0_ok nmX0 9 c 5 (show c < 40 by first | assumption | omega) (by decide) rfl rfl tw_fl_X0_40 rfl rfl rfl (Nat.le_of_ble_eq_true rfl) dX0_loseByLeaving_48 ?_
        refine g_sub [(0, .ref (ad 9 c)), (1, .int (nI p)), (2, .int d), (3, .int (bI hd))] (by rw [← hq]; rfl) (J51 _ ?_)
        unfold lG
        rw [e2]
        rfl
  · have hq : nI 1 = bI hd := by rw [hhd, decide_eq_true c_5]; rfl
    refine g_iconst hB (nI 1) dX0_loseByLeaving_8 rfl ?_
    refine g_goto hB 13 dX0_loseByLeaving_9 (by decide) ?_
    refine g_istore_n hB 3 dX0_loseByLeaving_13 rfl (by decide) ?_
    refine g_aload_n hB 0 dX0_loseByLeaving_14 rfl rfl ?_
    refine g_get (ci := 0) (T := TX0) (N := 8) hB in_X0 rfl 9 c 5 (show c < 40 by first | assumption | omega) (by decide) rfl tw_fl_X0_40 rfl dX0_loseByLeaving_15 ?_
    refine g_iload_n hB 1 dX0_loseByLeaving_18 rfl rfl ?_
    refine g_callNI hB (host := RX5) (c_X5_contains _ _ _) tw_code_X5_contains (by decide) tw_ini_X5 tw_st_X5_contains yk_X5_contains ⟨Nat.le_of_ble_eq_true rfl, Nat.le_of_ble_eq_true rfl⟩ rfl (Nat.le_of_ble_eq_true rfl) ⟨Nat.le_of_ble_eq_true rfl, Nat.le_of_ble_eq_true rfl⟩ dX0_loseByLeaving_19 ?_
    rintro _ _ ⟨rfl, rfl⟩
    refine b_if_eq hB (cntI (S 9 c 5) (nI p)) 51 dX0_loseByLeaving_22 (by decide) (fun c_22 => ?_) (fun c_22 => ?_)
    · have e2 : (cntI (S 9 c 5) (nI p) && decide (d - S 10 c p < nI 30)) = false := by rw [c_22]; rfl
      refine g_sub [(0, .ref (ad 9 c)), (1, .int (nI p)), (2, .int d), (3, .int (bI hd))] (by rw [← hq]; rfl) (J51 _ ?_)
      unfold lG
      rw [e2]
      rfl
    · refine g_iload_n hB 2 dX0_loseByLeaving_25 rfl rfl ?_
      refine g_aload_n hB 0 dX0_loseByLeaving_26 rfl rfl ?_
      refine g_get (ci := 0) (T := TX0) (N := 8) hB in_X0 rfl 9 c 6 (show c < 40 by first | assumption | omega) (by decide) rfl tw_fl_X0_15 rfl dX0_loseByLeaving_27 ?_
      refine g_iload_n hB 1 dX0_loseByLeaving_30 rfl rfl ?_
      refine g_iald hB 10 c p (n := 8) (show c < 40 by first | assumption | omega) rfl (by first | assumption | omega) (Nat.le_of_ble_eq_true rfl) dX0_loseByLeaving_31 ?_
      refine g_isub hB dX0_loseByLeaving_32 ?_
      refine g_bipush hB (nI 30) dX0_loseByLeaving_33 rfl ?_
      refine g_icmp_ge hB 51 dX0_loseByLeaving_35 (by decide) (fun c_35 => ?_) (fun c_35 => ?_)
      · have e2 : (cntI (S 9 c 5) (nI p) && decide (d - S 10 c p < nI 30)) = false := by rw [decide_eq_false (Int32.not_lt.mpr c_35), Bool.and_false]
        refine g_sub [(0, .ref (ad 9 c)), (1, .int (nI p)), (2, .int d), (3, .int (bI hd))] (by rw [← hq]; rfl) (J51 _ ?_)
        unfold lG
        rw [e2]
        rfl
      · have e2 : (cntI (S 9 c 5) (nI p) && decide (d - S 10 c p < nI 30)) = true := by rw [c_22, decide_eq_true (Int32.not_le.mp c_35)]; rfl
        refine g_aload_n hB 0 dX0_loseByLeaving_38 rfl rfl ?_
        refine g_aload_n hB 0 dX0_loseByLeaving_39 rfl rfl ?_
        refine g_get (ci := 0) (T := TX0) (N := 8) hB in_X0 rfl 9 c 5 (show c < 40 by first | assumption | omega) (by decide) rfl tw_fl_X0_40 rfl dX0_loseByLeaving_40 ?_
        refine g_iload_n hB 1 dX0_loseByLeaving_43 rfl rfl ?_
        refine g_iconst hB (nI 0) dX0_loseByLeaving_44 rfl ?_
        refine g_callNI hB (host := RX5) (c_X5_with _ _ _ false) tw_code_X5_with (by decide) tw_ini_X5 tw_st_X5_with yk_X5_with ⟨Nat.le_of_ble_eq_true rfl, Nat.le_of_ble_eq_true rfl⟩ rfl (Nat.le_of_ble_eq_true rfl) ⟨Nat.le_of_ble_eq_true rfl, Nat.le_of_ble_eq_true rfl⟩ dX0_loseByLeaving_45 ?_
        rintro _ _ ⟨rfl, rfl⟩
        refine s_put (ci := 0) (T := TX0) (N := 8) hB in_X0 rfl tyX0 tyX0_ok nmX0 9 c 5 (show c < 40 by first | assumption | omega) (by decide) rfl rfl tw_fl_X0_40 rfl rfl rfl (Nat.le_of_ble_eq_true rfl) dX0_loseByLeaving_48 ?_
        refine g_sub [(0, .ref (ad 9 c)), (1, .int (nI p)), (2, .int d), (3, .int (bI hd))] (by rw [← hq]; rfl) (J51 _ ?_)
        unfold lG
        rw [e2]
        rfl
theorem c_X9_clear13 (S : Mem) (h : Nat) (hh : h < 2) : CV l yX9_clear cX9_clear 1 none { frames := 1, cells := 0, slots := 0, locals := 23 } D ad CNT ca SR (SH ad ca S) [.ref (ad 21 h)] (PM ad ca (uS S 13 h (hdB S h))) := by
  refine CV.of _ RX9 (by decide +kernel) rfl (Nat.le_of_ble_eq_true rfl) ?_
  intro p9 e9 s9 m9 a9 b9 me9 c9 A9 hB hr hnm9
  refine g_aload_n hB 0 dX9_clear_0 rfl rfl ?_
  refine g_get (ci := 6) (T := TX9) (N := 1) hB in_X9 rfl 21 h 0 (show h < 2 by first | assumption | omega) (by decide) rfl tw_fl_X9_9 rfl dX9_clear_1 ?_
  refine g_iconst hB (-1) dX9_clear_4 rfl ?_
  refine g_callSV hB (c_J7_fill_53178 _ 13 h 132 _ (show h < 2 from hh) (fun _ => rfl) (by decide)) k_X9_15 yk_J7_fill_53178 ⟨Nat.le_of_ble_eq_true rfl, Nat.le_of_ble_eq_true rfl⟩ rfl (Nat.le_of_ble_eq_true rfl) ⟨Nat.le_of_ble_eq_true rfl, Nat.le_of_ble_eq_true rfl⟩ dX9_clear_5 ?_
  rintro _ rfl
  exact g_vret hB hr (Nat.le_of_ble_eq_true rfl) (Nat.le_of_ble_eq_true rfl) (rfl) dX9_clear_8
theorem c_X1_raise (S : Mem) (h : Nat) (hh : h < 2) (q c : Nat) (hq : q < 132) (hc40 : c < 40) : CV l yX1_raise cX1_raise 3 none { frames := 2, cells := 0, slots := 0, locals := 43 } D ad CNT ca SR (SH ad ca S) [.ref (ad 12 h), .int (nI q), .int (nI c)] (PM ad ca (raM S h q c)) := by
  refine CV.of _ RX1 (by decide +kernel) rfl (Nat.le_of_ble_eq_true rfl) ?_
  intro p9 e9 s9 m9 a9 b9 me9 c9 A9 hB hr hnm9
  refine g_aload_n hB 0 dX1_raise_0 rfl rfl ?_
  refine g_aload_n hB 0 dX1_raise_1 rfl rfl ?_
  refine g_get (ci := 1) (T := TX1) (N := 2) hB in_X1 rfl 12 h 0 (show h < 2 by first | assumption | omega) (by decide) rfl tw_fl_X1_12 rfl dX1_raise_2 ?_
  refine g_iload_n hB 1 dX1_raise_5 rfl rfl ?_
  refine g_callVI hB (c_X9_get13 _ h hh q hq) k_X1_32 rfl yk_X9_get ⟨Nat.le_of_ble_eq_true rfl, Nat.le_of_ble_eq_true rfl⟩ ⟨(show h < 2 by first | assumption | omega), _, _, _, rfl, rfl, rfl⟩ rfl (Nat.le_of_ble_eq_true rfl) ⟨Nat.le_of_ble_eq_true rfl, Nat.le_of_ble_eq_true rfl⟩ dX1_raise_6 ?_
  rintro _ _ ⟨rfl, rfl⟩
  refine g_callVI hB (c_X1_rankOf _ h hh _) k_X1_36 rfl yk_X1_rankOf ⟨Nat.le_of_ble_eq_true rfl, Nat.le_of_ble_eq_true rfl⟩ ⟨(show h < 2 by first | assumption | omega), _, _, _, rfl, rfl, rfl⟩ rfl (Nat.le_of_ble_eq_true rfl) ⟨Nat.le_of_ble_eq_true rfl, Nat.le_of_ble_eq_true rfl⟩ dX1_raise_9 ?_
  rintro _ _ ⟨rfl, rfl⟩
  refine g_aload_n hB 0 dX1_raise_12 rfl rfl ?_
  refine g_iload_n hB 2 dX1_raise_13 rfl rfl ?_
  refine g_callVI hB (c_X1_rankOf _ h hh _) k_X1_36 rfl yk_X1_rankOf ⟨Nat.le_of_ble_eq_true rfl, Nat.le_of_ble_eq_true rfl⟩ ⟨(show h < 2 by first | assumption | omega), _, _, _, rfl, rfl, rfl⟩ rfl (Nat.le_of_ble_eq_true rfl) ⟨Nat.le_of_ble_eq_true rfl, Nat.le_of_ble_eq_true rfl⟩ dX1_raise_14 ?_
  rintro _ _ ⟨rfl, rfl⟩
  refine g_top ((S 14 h c)) (rkV_n hc40) ?_
  refine g_icmp_ge hB 29 dX1_raise_17 (by decide) (fun c_17 => ?_) (fun c_17 => ?_)
  · have e : decide (rkV S h (S 13 h q) < S 14 h c) = false := decide_eq_false (Int32.not_lt.mpr c_17)
    exact g_vret hB hr (Nat.le_of_ble_eq_true rfl) (Nat.le_of_ble_eq_true rfl) (by unfold raM; rw [e]; rfl) dX1_raise_29
  · have e : decide (rkV S h (S 13 h q) < S 14 h c) = true := decide_eq_true (Int32.not_le.mp c_17)
    refine g_aload_n hB 0 dX1_raise_20 rfl rfl ?_
    refine g_get (ci := 1) (T := TX1) (N := 2) hB in_X1 rfl 12 h 0 (show h < 2 by first | assumption | omega) (by decide) rfl tw_fl_X1_12 rfl dX1_raise_21 ?_
    refine g_iload_n hB 1 dX1_raise_24 rfl rfl ?_
    refine g_iload_n hB 2 dX1_raise_25 rfl rfl ?_
    refine g_callVV hB (c_X9_set13 _ h hh q hq _) k_X1_39 rfl yk_X9_set ⟨Nat.le_of_ble_eq_true rfl, Nat.le_of_ble_eq_true rfl⟩ ⟨(show h < 2 by first | assumption | omega), _, _, _, rfl, rfl, rfl⟩ rfl (Nat.le_of_ble_eq_true rfl) ⟨Nat.le_of_ble_eq_true rfl, Nat.le_of_ble_eq_true rfl⟩ dX1_raise_26 ?_
    rintro _ rfl
    exact g_vret hB hr (Nat.le_of_ble_eq_true rfl) (Nat.le_of_ble_eq_true rfl) (by unfold raM; rw [e]; rfl) dX1_raise_29
theorem c_X5_findHeads (S : Mem) (nc : Nat) (hc : S 0 0 9 = nI nc) (hnc : nc ≤ 40) (hcell : ∀ c, c < nc → ∃ q, q < 132 ∧ S 9 c 1 = nI q) : CV l yX5_findHeads cX5_findHeads 2 none { frames := 3, cells := 0, slots := 0, locals := 65 } D ad CNT ca SR (SH ad ca S) [.ref (ad 0 0)] (PM ad ca (fHM S nc)) := by
  refine CV.of _ RX5 (by decide +kernel) rfl (Nat.le_of_ble_eq_true rfl) ?_
  intro p9 e9 s9 m9 a9 b9 me9 c9 A9 hB hr hnm9
  have loop : ∀ (n c : Nat), nc - c < n → c ≤ nc → G p9 l e9 { frames := 3, cells := 0, slots := 0, locals := 65 } s9 m9 a9 b9 me9 c9 D ad A9 2 (MQ b9 (va_Qv (PM ad ca (fHM S nc)) (fun E' t => WW D ad CNT A9 E' t.heap) A9) a9 s9 0 0 A9) 0 0 CNT (SH ad ca (uS S 13 0 (hdF S c))) 12 [(0, .ref (ad 0 0)), (1, .int (nI c))] [] := by
    intro n
    induction n with
    | zero => intro c h1; omega
    | succ n ih =>
      intro c h1 h2
      refine g_iload_n hB 1 dX5_findHeads_12 rfl rfl ?_
      refine g_aload_n hB 0 dX5_findHeads_13 rfl rfl ?_
      refine g_get (ci := 5) (T := TX5) (N := 16) hB in_X5 rfl 0 0 9 (by decide) (by decide) rfl tw_fl_X5_163 rfl dX5_findHeads_14 ?_
      refine g_top (nI nc) (hc) ?_
      refine n_icmp_ge hB c nc 56 dX5_findHeads_17 (by decide) (by omega) (by omega) (fun c_17 => ?_) (fun c_17 => ?_)
      · have hk : c = nc := by omega
        subst hk
        exact g_vret hB hr (Nat.le_of_ble_eq_true rfl) (Nat.le_of_ble_eq_true rfl) (rfl) dX5_findHeads_56
      · obtain ⟨q, hq, eq_⟩ := hcell c c_17
        have hcq : hdC S c = q := by unfold hdC; rw [eq_]; exact ix_nI (by omega)
        refine g_aload_n hB 0 dX5_findHeads_20 rfl rfl ?_
        refine g_get (ci := 5) (T := TX5) (N := 16) hB in_X5 rfl 0 0 8 (by decide) (by decide) rfl tw_fl_X5_37 rfl dX5_findHeads_21 ?_
        refine g_iload_n hB 1 dX5_findHeads_24 rfl rfl ?_
        refine g_aald hB 4 0 c 3 (n := 40) (by decide) rfl rfl (by first | assumption | omega) (Nat.le_of_ble_eq_true rfl) rfl dX5_findHeads_25 ?_
        refine g_get (ci := 0) (T := TX0) (N := 8) hB in_X0 rfl 9 c 4 (show c < 40 by first | assumption | omega) (by decide) rfl tw_fl_X5_195 rfl dX5_findHeads_26 ?_
        refine g_iconst hB (nI 1) dX5_findHeads_29 rfl ?_
        refine g_icmp_ne hB 50 dX5_findHeads_30 (by decide) (fun c_30 => ?_) (fun c_30 => ?_)
        · have hm : uS S 13 0 (hdF S c) = uS S 13 0 (hdF S (c + 1)) := by
            have e : hdOk S c = false := decide_eq_false c_30
            show _ = uS S 13 0 (hdG _ _ _ _ (c + 1))
            rw [hdG, e]; rfl
          refine g_iinc hB (nI (c + 1)) dX5_findHeads_50 rfl (nI_1 _) (by decide) ?_
          refine g_goto hB 12 dX5_findHeads_53 (by decide) ?_
          exact s_eq _ hm (g_sub _ rfl (ih (c + 1) (by omega) (by omega)))
        · have hok : hdOk S c = true := decide_eq_true c_30
          refine g_aload_n hB 0 dX5_findHeads_33 rfl rfl ?_
          refine g_get (ci := 5) (T := TX5) (N := 16) hB in_X5 rfl 0 0 13 (by decide) (by decide) rfl tw_fl_X5_47 rfl dX5_findHeads_34 ?_
          refine g_aload_n hB 0 dX5_findHeads_37 rfl rfl ?_
          refine g_get (ci := 5) (T := TX5) (N := 16) hB in_X5 rfl 0 0 8 (by decide) (by decide) rfl tw_fl_X5_37 rfl dX5_findHeads_38 ?_
          refine g_iload_n hB 1 dX5_findHeads_41 rfl rfl ?_
          refine g_aald hB 4 0 c 3 (n := 40) (by decide) rfl rfl (by first | assumption | omega) (Nat.le_of_ble_eq_true rfl) rfl dX5_findHeads_42 ?_
          refine g_get (ci := 0) (T := TX0) (N := 8) hB in_X0 rfl 9 c 1 (show c < 40 by first | assumption | omega) (by decide) rfl tw_fl_X5_272 rfl dX5_findHeads_43 ?_
          refine g_top (nI (q)) (eq_) ?_
          refine g_iload_n hB 1 dX5_findHeads_46 rfl rfl ?_
          refine g_callVV hB (c_X1_raise _ 0 (by decide) q c hq (by omega)) k_X5_306 rfl yk_X1_raise ⟨Nat.le_of_ble_eq_true rfl, Nat.le_of_ble_eq_true rfl⟩ ⟨(by decide), _, _, _, rfl, rfl, rfl⟩ rfl (Nat.le_of_ble_eq_true rfl) ⟨Nat.le_of_ble_eq_true rfl, Nat.le_of_ble_eq_true rfl⟩ dX5_findHeads_47 ?_
          rintro _ rfl
          refine g_iinc hB (nI (c + 1)) dX5_findHeads_50 rfl (nI_1 _) (by decide) ?_
          refine g_goto hB 12 dX5_findHeads_53 (by decide) ?_
          refine s_eq _ ?_ (g_sub _ rfl (ih (c + 1) (by omega) (by omega)))
          rw [raM_uS]
          refine congrArg (uS S 13 0) ?_
          show _ = hdG _ _ _ _ (c + 1)
          rw [hdG, hok, hcq]; rfl
  refine g_aload_n hB 0 dX5_findHeads_0 rfl rfl ?_
  refine g_get (ci := 5) (T := TX5) (N := 16) hB in_X5 rfl 0 0 13 (by decide) (by decide) rfl tw_fl_X5_47 rfl dX5_findHeads_1 ?_
  refine g_get (ci := 1) (T := TX1) (N := 2) hB in_X1 rfl 12 0 0 (by decide) (by decide) rfl tw_fl_X5_219 rfl dX5_findHeads_4 ?_
  refine g_callVV hB (c_X9_clear13 _ 0 (by decide)) k_X5_303 rfl yk_X9_clear ⟨Nat.le_of_ble_eq_true rfl, Nat.le_of_ble_eq_true rfl⟩ ⟨(by decide), _, _, _, rfl, rfl, rfl⟩ rfl (Nat.le_of_ble_eq_true rfl) ⟨Nat.le_of_ble_eq_true rfl, Nat.le_of_ble_eq_true rfl⟩ dX5_findHeads_7 ?_
  rintro _ rfl
  refine g_iconst hB (nI 0) dX5_findHeads_10 rfl ?_
  refine g_istore_n hB 1 dX5_findHeads_11 rfl (by decide) ?_
  exact g_sub _ rfl (loop (nc + 1) 0 (by omega) (by omega))
theorem c_X5_hold (S : Mem) (c nc : Nat) (hc : S 0 0 9 = nI nc) (hnc : nc ≤ 40) (hcc : c < nc) (hcell : ∀ c, c < nc → ∃ q, q < 132 ∧ S 9 c 1 = nI q) : CV l yX5_hold cX5_hold 2 none { frames := 4, cells := 0, slots := 0, locals := 86 } D ad CNT ca SR (SH ad ca S) [.ref (ad 0 0), .int (nI c)] (PM ad ca (hoM S c nc)) := by
  have h1 : ∀ c', c' < nc → ∃ q, q < 132 ∧ uM S 9 c 4 (nI 1) 9 c' 1 = nI q := fun c' h => by rw [uM_n (by simp)]; exact hcell c' h
  refine CV.of _ RX5 (by decide +kernel) rfl (Nat.le_of_ble_eq_true rfl) ?_
  intro p9 e9 s9 m9 a9 b9 me9 c9 A9 hB hr hnm9
  refine g_aload_n hB 0 dX5_hold_0 rfl rfl ?_
  refine g_get (ci := 5) (T := TX5) (N := 16) hB in_X5 rfl 0 0 8 (by decide) (by decide) rfl tw_fl_X5_37 rfl dX5_hold_1 ?_
  refine g_iload_n hB 1 dX5_hold_4 rfl rfl ?_
  refine g_aald hB 4 0 c 3 (n := 40) (by decide) rfl rfl (by first | assumption | omega) (Nat.le_of_ble_eq_true rfl) rfl dX5_hold_5 ?_
  refine g_iconst hB (nI 1) dX5_hold_6 rfl ?_
  refine s_put (ci := 0) (T := TX0) (N := 8) hB in_X0 rfl tyX0 tyX0_ok nmX0 9 c 4 (show c < 40 by first | assumption | omega) (by decide) rfl rfl tw_fl_X5_195 rfl rfl rfl (Nat.le_of_ble_eq_true rfl) dX5_hold_7 ?_
  refine g_aload_n hB 0 dX5_hold_10 rfl rfl ?_
  refine g_get (ci := 5) (T := TX5) (N := 16) hB in_X5 rfl 0 0 13 (by decide) (by decide) rfl tw_fl_X5_47 rfl dX5_hold_11 ?_
  refine g_iload_n hB 1 dX5_hold_14 rfl rfl ?_
  refine g_callVI hB (c_X1_rankOf _ 0 (by decide) _) k_X5_216 rfl yk_X1_rankOf ⟨Nat.le_of_ble_eq_true rfl, Nat.le_of_ble_eq_true rfl⟩ ⟨(by decide), _, _, _, rfl, rfl, rfl⟩ rfl (Nat.le_of_ble_eq_true rfl) ⟨Nat.le_of_ble_eq_true rfl, Nat.le_of_ble_eq_true rfl⟩ dX5_hold_15 ?_
  rintro _ _ ⟨rfl, rfl⟩
  refine g_top ((uM S 9 c 4 (nI 1) 14 0 c)) (rkV_n (by omega)) ?_
  refine g_iconst hB (-1) dX5_hold_18 rfl ?_
  refine g_icmp_ne hB 44 dX5_hold_19 (by decide) (fun c_19 => ?_) (fun c_19 => ?_)
  · have e : decide (uM S 9 c 4 (nI 1) 14 0 c = -1) = false := decide_eq_false c_19
    refine g_aload_n hB 0 dX5_hold_44 rfl rfl ?_
    refine g_callVV hB (c_X5_findHeads _ nc hc hnc h1) k_X5_297 rfl yk_X5_findHeads ⟨Nat.le_of_ble_eq_true rfl, Nat.le_of_ble_eq_true rfl⟩ ⟨(by decide), _, _, _, rfl, rfl, rfl⟩ rfl (Nat.le_of_ble_eq_true rfl) ⟨Nat.le_of_ble_eq_true rfl, Nat.le_of_ble_eq_true rfl⟩ dX5_hold_45 ?_
    rintro _ rfl
    exact g_vret hB hr (Nat.le_of_ble_eq_true rfl) (Nat.le_of_ble_eq_true rfl) (by unfold hoM; rw [e]; rfl) dX5_hold_48
  · have e : decide (uM S 9 c 4 (nI 1) 14 0 c = -1) = true := decide_eq_true c_19
    refine g_aload_n hB 0 dX5_hold_22 rfl rfl ?_
    refine g_get (ci := 5) (T := TX5) (N := 16) hB in_X5 rfl 0 0 13 (by decide) (by decide) rfl tw_fl_X5_47 rfl dX5_hold_23 ?_
    refine g_iload_n hB 1 dX5_hold_26 rfl rfl ?_
    refine g_aload_n hB 0 dX5_hold_27 rfl rfl ?_
    refine g_get (ci := 5) (T := TX5) (N := 16) hB in_X5 rfl 0 0 10 (by decide) (by decide) rfl tw_fl_X5_290 rfl dX5_hold_28 ?_
    refine g_callVV hB (c_X1_setRank _ 0 (by decide) c (by omega) _) k_X5_293 rfl yk_X1_setRank ⟨Nat.le_of_ble_eq_true rfl, Nat.le_of_ble_eq_true rfl⟩ ⟨(by decide), _, _, _, rfl, rfl, rfl⟩ rfl (Nat.le_of_ble_eq_true rfl) ⟨Nat.le_of_ble_eq_true rfl, Nat.le_of_ble_eq_true rfl⟩ dX5_hold_31 ?_
    rintro _ rfl
    refine g_aload_n hB 0 dX5_hold_34 rfl rfl ?_
    refine g_dup hB rfl dX5_hold_35 ?_
    refine g_get (ci := 5) (T := TX5) (N := 16) hB in_X5 rfl 0 0 10 (by decide) (by decide) rfl tw_fl_X5_290 rfl dX5_hold_36 ?_
    refine g_iconst hB (nI 1) dX5_hold_39 rfl ?_
    refine g_iadd hB dX5_hold_40 ?_
    refine s_put (ci := 5) (T := TX5) (N := 16) hB in_X5 rfl tyX5 tyX5_ok nmX5 0 0 10 (by decide) (by decide) rfl rfl tw_fl_X5_290 rfl rfl rfl (Nat.le_of_ble_eq_true rfl) dX5_hold_41 ?_
    refine g_aload_n hB 0 dX5_hold_44 rfl rfl ?_
    refine g_callVV hB (c_X5_findHeads _ nc hc hnc h1) k_X5_297 rfl yk_X5_findHeads ⟨Nat.le_of_ble_eq_true rfl, Nat.le_of_ble_eq_true rfl⟩ ⟨(by decide), _, _, _, rfl, rfl, rfl⟩ rfl (Nat.le_of_ble_eq_true rfl) ⟨Nat.le_of_ble_eq_true rfl, Nat.le_of_ble_eq_true rfl⟩ dX5_hold_45 ?_
    rintro _ rfl
    exact g_vret hB hr (Nat.le_of_ble_eq_true rfl) (Nat.le_of_ble_eq_true rfl) (by unfold hoM; rw [e]; rfl) dX5_hold_48
theorem c_X5_voidWhatIsNotOld (S : Mem) (p ng nm nc t pa : Nat) (hp : p < 8) (h : KI S ng nm nc t pa) : CI l yX5_voidWhatIsNotOld cX5_voidWhatIsNotOld 5 (some .int) { frames := 4, cells := 0, slots := 0, locals := 86 } D ad CNT ca SR (SH ad ca S) [.ref (ad 0 0), .int (nI p)] (PR ad ca (nI (vcN S p nc)) (cVoidM S p nc nm)) := by
  have hnc := h.2.2.1.2
  have hnm := h.2.1.2
  have hK1 : ∀ n, KI (vcM S p n) ng nm nc t pa := fun n => KI_U h (vcM_fr (by decide) n) (vcM_fr (by decide) n) (fun i j _ => by rw [vcM_fr (by decide) n]) (fun i => vcM_fr (by decide) n) (fun i => vcM_9 (by decide) (by decide) n)
  have hK2 : ∀ n, KI (cUnt (fHM (vcM S p nc) nc) nc n) ng nm nc t pa := fun n => KI_U (hK1 nc) (cUnt_fr (by decide) n) (cUnt_fr (by decide) n) (fun i j hj => by rw [cUnt_6 hj n]; rfl) (fun i => cUnt_fr (by decide) n) (fun i => by rw [cUnt_fr (by decide) n]; rfl)
  refine CI.of _ RX5 (by decide +kernel) rfl (Nat.le_of_ble_eq_true rfl) ?_
  intro p9 e9 s9 m9 a9 b9 me9 c9 A9 hB hr hnm9
  have loop2 : ∀ (n i : Nat), nm - i < n → i ≤ nm → G p9 l e9 { frames := 4, cells := 0, slots := 0, locals := 86 } s9 m9 a9 b9 me9 c9 D ad A9 5 (MQ b9 (va_Qi (PR ad ca (nI (vcN S p nc)) (cVoidM S p nc nm)) (fun E' t => WW D ad CNT A9 E' t.heap) A9) a9 s9 0 0 A9) 0 0 CNT (SH ad ca (cUnt (fHM (vcM S p nc) nc) nc i)) 44 [(0, .ref (ad 0 0)), (1, .int (nI p)), (2, .int (nI (vcN S p nc))), (3, .int (nI i))] [] := by
    intro n
    induction n with
    | zero => intro i h1; omega
    | succ n ih =>
      intro i h1 h2
      have hK := hK2 i
      have hT : cUnt (fHM (vcM S p nc) nc) nc (i + 1) = bif (cNear (cUnt (fHM (vcM S p nc) nc) nc i) nc i (clay (cUnt (fHM (vcM S p nc) nc) nc i) i)).isSome then uM (cUnt (fHM (vcM S p nc) nc) nc i) 6 i 2 (cUnt (fHM (vcM S p nc) nc) nc i 0 0 0) else cUnt (fHM (vcM S p nc) nc) nc i := rfl
      have hih := fun h => ih (i + 1) h
      rw [hT] at hih
      have hfin : i = nm → cVoidM S p nc nm = cUnt (fHM (vcM S p nc) nc) nc i := fun e => by rw [e]; rfl
      generalize cUnt (fHM (vcM S p nc) nc) nc i = T at hK hih hfin ⊢
      clear ih hT
      refine g_iload_n hB 3 dX5_voidWhatIsNotOld_44 rfl rfl ?_
      refine g_aload_n hB 0 dX5_voidWhatIsNotOld_45 rfl rfl ?_
      refine g_get (ci := 5) (T := TX5) (N := 16) hB in_X5 rfl 0 0 7 (by decide) (by decide) rfl tw_fl_X5_127 rfl dX5_voidWhatIsNotOld_46 ?_
      refine g_top (nI nm) (hK.2.1.1) ?_
      refine n_icmp_ge hB i nm 85 dX5_voidWhatIsNotOld_49 (by decide) (by omega) (by omega) (fun c_49 => ?_) (fun c_49 => ?_)
      · have hk : i = nm := by omega
        have hf := hfin hk
        refine g_iload_n hB 2 dX5_voidWhatIsNotOld_85 rfl rfl ?_
        exact g_iret hB hr rfl (Nat.le_of_ble_eq_true rfl) (Nat.le_of_ble_eq_true rfl) (⟨rfl, by rw [hf]⟩) dX5_voidWhatIsNotOld_86
      · have hL := hK.2.2.2.2.2.2.1 i c_49
        refine g_aload_n hB 0 dX5_voidWhatIsNotOld_52 rfl rfl ?_
        refine g_get (ci := 5) (T := TX5) (N := 16) hB in_X5 rfl 0 0 6 (by decide) (by decide) rfl tw_fl_X5_31 rfl dX5_voidWhatIsNotOld_53 ?_
        refine g_iload_n hB 3 dX5_voidWhatIsNotOld_56 rfl rfl ?_
        refine g_aald hB 3 0 i 2 (n := 12) (by decide) rfl rfl (by first | assumption | omega) (Nat.le_of_ble_eq_true rfl) rfl dX5_voidWhatIsNotOld_57 ?_
        refine g_astore hB 4 dX5_voidWhatIsNotOld_58 (by decide) ?_
        refine g_aload_n hB 0 dX5_voidWhatIsNotOld_60 rfl rfl ?_
        refine g_aload hB 4 dX5_voidWhatIsNotOld_61 rfl ?_
        refine g_callVI hB (c_X5_nearestLayerNotHeld _ nc hK.2.2.1.1 hnc i (by omega) _ hL) k_X5_147 rfl yk_X5_nearestLayerNotHeld ⟨Nat.le_of_ble_eq_true rfl, Nat.le_of_ble_eq_true rfl⟩ ⟨(by decide), _, _, _, rfl, rfl, rfl⟩ rfl (Nat.le_of_ble_eq_true rfl) ⟨Nat.le_of_ble_eq_true rfl, Nat.le_of_ble_eq_true rfl⟩ dX5_voidWhatIsNotOld_63 ?_
        rintro _ _ ⟨rfl, rfl⟩
        refine g_iconst hB (-1) dX5_voidWhatIsNotOld_66 rfl ?_
        refine g_icmp_eq hB 79 dX5_voidWhatIsNotOld_67 (by decide) (fun c_67 => ?_) (fun c_67 => ?_)
        · have e : cNear T nc i (clay T i) = none := (oI_m1 (fun c hc => by have := (fstN_some.mp hc).1; have := hL.2.1; omega)).mp c_67
          rw [e] at hih
          refine g_iinc hB (nI (i + 1)) dX5_voidWhatIsNotOld_79 rfl (nI_1 _) (by decide) ?_
          refine g_goto hB 44 dX5_voidWhatIsNotOld_82 (by decide) ?_
          exact g_sub _ rfl (hih (by omega) (by omega))
        · obtain ⟨j, e⟩ : ∃ j, cNear T nc i (clay T i) = some j := by
            cases hd : cNear T nc i (clay T i) with
            | none => rw [hd] at c_67; exact absurd rfl c_67
            | some d => exact ⟨d, rfl⟩
          rw [e] at hih
          refine g_aload hB 4 dX5_voidWhatIsNotOld_70 rfl ?_
          refine g_aload_n hB 0 dX5_voidWhatIsNotOld_72 rfl rfl ?_
          refine g_get (ci := 5) (T := TX5) (N := 16) hB in_X5 rfl 0 0 0 (by decide) (by decide) rfl tw_fl_X5_97 rfl dX5_voidWhatIsNotOld_73 ?_
          refine s_put (ci := 2) (T := TX2) (N := 6) hB in_X2 rfl tyX2 tyX2_ok nmX2 6 i 2 (show i < 12 by first | assumption | omega) (by decide) rfl rfl tw_fl_X5_139 rfl rfl rfl (Nat.le_of_ble_eq_true rfl) dX5_voidWhatIsNotOld_76 ?_
          refine g_iinc hB (nI (i + 1)) dX5_voidWhatIsNotOld_79 rfl (nI_1 _) (by decide) ?_
          refine g_goto hB 44 dX5_voidWhatIsNotOld_82 (by decide) ?_
          exact g_sub _ rfl (hih (by omega) (by omega))
  have loop1 : ∀ (n c a : Nat), nc - c < n → c ≤ nc → a = vcN S p c → G p9 l e9 { frames := 4, cells := 0, slots := 0, locals := 86 } s9 m9 a9 b9 me9 c9 D ad A9 5 (MQ b9 (va_Qi (PR ad ca (nI (vcN S p nc)) (cVoidM S p nc nm)) (fun E' t => WW D ad CNT A9 E' t.heap) A9) a9 s9 0 0 A9) 0 0 CNT (SH ad ca (vcM S p c)) 4 [(0, .ref (ad 0 0)), (1, .int (nI p)), (2, .int (nI a)), (3, .int (nI c))] [] := by
    intro n
    induction n with
    | zero => intro c a h1; omega
    | succ n ih =>
      intro c a h1 h2 ha
      have hK := hK1 c
      refine g_iload_n hB 3 dX5_voidWhatIsNotOld_4 rfl rfl ?_
      refine g_aload_n hB 0 dX5_voidWhatIsNotOld_5 rfl rfl ?_
      refine g_get (ci := 5) (T := TX5) (N := 16) hB in_X5 rfl 0 0 9 (by decide) (by decide) rfl tw_fl_X5_163 rfl dX5_voidWhatIsNotOld_6 ?_
      refine g_top (nI nc) (hK.2.2.1.1) ?_
      refine n_icmp_ge hB c nc 38 dX5_voidWhatIsNotOld_9 (by decide) (by omega) (by omega) (fun c_9 => ?_) (fun c_9 => ?_)
      · have hk : c = nc := by omega
        subst hk
        refine g_aload_n hB 0 dX5_voidWhatIsNotOld_38 rfl rfl ?_
        refine g_callVV hB (c_X5_findHeads _ c hK.2.2.1.1 hnc hK.2.2.2.2.2.2.2.1) k_X5_297 rfl yk_X5_findHeads ⟨Nat.le_of_ble_eq_true rfl, Nat.le_of_ble_eq_true rfl⟩ ⟨(by decide), _, _, _, rfl, rfl, rfl⟩ rfl (Nat.le_of_ble_eq_true rfl) ⟨Nat.le_of_ble_eq_true rfl, Nat.le_of_ble_eq_true rfl⟩ dX5_voidWhatIsNotOld_39 ?_
        rintro _ rfl
        refine g_iconst hB (nI 0) dX5_voidWhatIsNotOld_42 rfl ?_
        refine g_istore_n hB 3 dX5_voidWhatIsNotOld_43 rfl (by decide) ?_
        rw [ha]
        exact g_sub _ rfl (loop2 (nm + 1) 0 (by omega) (by omega))
      · refine g_aload_n hB 0 dX5_voidWhatIsNotOld_12 rfl rfl ?_
        refine g_get (ci := 5) (T := TX5) (N := 16) hB in_X5 rfl 0 0 8 (by decide) (by decide) rfl tw_fl_X5_37 rfl dX5_voidWhatIsNotOld_13 ?_
        refine g_iload_n hB 3 dX5_voidWhatIsNotOld_16 rfl rfl ?_
        refine g_aald hB 4 0 c 3 (n := 40) (by decide) rfl rfl (by first | assumption | omega) (Nat.le_of_ble_eq_true rfl) rfl dX5_voidWhatIsNotOld_17 ?_
        refine g_iload_n hB 1 dX5_voidWhatIsNotOld_18 rfl rfl ?_
        refine g_aload_n hB 0 dX5_voidWhatIsNotOld_19 rfl rfl ?_
        refine g_get (ci := 5) (T := TX5) (N := 16) hB in_X5 rfl 0 0 0 (by decide) (by decide) rfl tw_fl_X5_97 rfl dX5_voidWhatIsNotOld_20 ?_
        refine g_callVI hB (c_X0_loseByLeaving _ c (by omega) p hp _) k_X5_300 rfl yk_X0_loseByLeaving ⟨Nat.le_of_ble_eq_true rfl, Nat.le_of_ble_eq_true rfl⟩ ⟨(show c < 40 by first | assumption | omega), _, _, _, rfl, rfl, rfl⟩ rfl (Nat.le_of_ble_eq_true rfl) ⟨Nat.le_of_ble_eq_true rfl, Nat.le_of_ble_eq_true rfl⟩ dX5_voidWhatIsNotOld_23 ?_
        rintro _ _ ⟨rfl, rfl⟩
        refine b_if_eq hB (lB (vcM S p c) c p (vcM S p c 0 0 0)) 32 dX5_voidWhatIsNotOld_26 (by decide) (fun c_26 => ?_) (fun c_26 => ?_)
        · refine g_iinc hB (nI (c + 1)) dX5_voidWhatIsNotOld_32 rfl (nI_1 _) (by decide) ?_
          refine g_goto hB 4 dX5_voidWhatIsNotOld_35 (by decide) ?_
          exact g_sub _ rfl (ih (c + 1) _ (by omega) (by omega) (by rw [vcN, ← ha, c_26]; rfl))
        · refine g_iinc hB (nI (a + 1)) dX5_voidWhatIsNotOld_29 rfl (nI_1 _) (by decide) ?_
          refine g_iinc hB (nI (c + 1)) dX5_voidWhatIsNotOld_32 rfl (nI_1 _) (by decide) ?_
          refine g_goto hB 4 dX5_voidWhatIsNotOld_35 (by decide) ?_
          exact g_sub _ rfl (ih (c + 1) _ (by omega) (by omega) (by rw [vcN, ← ha, c_26]; rfl))
  refine g_iconst hB (nI 0) dX5_voidWhatIsNotOld_0 rfl ?_
  refine g_istore_n hB 2 dX5_voidWhatIsNotOld_1 rfl (by decide) ?_
  refine g_iconst hB (nI 0) dX5_voidWhatIsNotOld_2 rfl ?_
  refine g_istore_n hB 3 dX5_voidWhatIsNotOld_3 rfl (by decide) ?_
  exact g_sub _ rfl (loop1 (nc + 1) 0 0 (by omega) (by omega) rfl)
end X3
