/-! the reference: its calls -/
section M4
variable {l : Launch} {D : va_G} {ad : Nat → Nat → Nat} {ca : Nat → ClassId} {SR : List (String × Nat × String)}

theorem c_X6_setDuty (S : Mem) (a b : Int32) : CI l yX6_setDuty cX6_setDuty 4 (some .int) { frames := 1, cells := 0, slots := 0, locals := 22 } D ad CNT ca SR (SH ad ca S) [.ref (ad 17 0), .int (a), .int (b)] (PR ad ca (rSetDuty (uM S 17 0 0 (nI 0)) a b).1 (rSetDuty (uM S 17 0 0 (nI 0)) a b).2) := by
  refine CI.of _ RX6 (by decide +kernel) rfl (Nat.le_of_ble_eq_true rfl) ?_
  intro p9 e9 s9 m9 a9 b9 me9 c9 A9 hB hr hnm9
  refine g_aload_n hB 0 dX6_setDuty_0 rfl rfl ?_
  refine g_iconst hB (nI 0) dX6_setDuty_1 rfl ?_
  refine s_put (ci := 6) (T := TX6) (N := 26) hB in_X6 rfl tyX6 tyX6_ok nmX6 17 0 0 (by decide) (by decide) rfl rfl tw_fl_X6_74 rfl rfl rfl (Nat.le_of_ble_eq_true rfl) dX6_setDuty_2 ?_
  refine g_iload_n hB 1 dX6_setDuty_5 rfl rfl ?_
  refine g_iconst hB (nI 0) dX6_setDuty_6 rfl ?_
  refine g_iconst hB (nI 3) dX6_setDuty_7 rfl ?_
  refine g_callSI hB (c_X6_in _ _ _ _) k_X6_77 yk_X6_in ⟨Nat.le_of_ble_eq_true rfl, Nat.le_of_ble_eq_true rfl⟩ rfl (Nat.le_of_ble_eq_true rfl) ⟨Nat.le_of_ble_eq_true rfl, Nat.le_of_ble_eq_true rfl⟩ dX6_setDuty_8 ?_
  rintro _ _ ⟨rfl, rfl⟩
  refine b_if_eq hB (inR a (nI 0) (nI 3)) 25 dX6_setDuty_11 (by decide) (fun c_11 => ?_) (fun c_11 => ?_)
  · refine g_aload_n hB 0 dX6_setDuty_25 rfl rfl ?_
    refine g_iconst hB (nI 1) dX6_setDuty_26 rfl ?_
    refine g_callVI hB (c_X6_fails _ _) k_X6_112 rfl yk_X6_fails ⟨Nat.le_of_ble_eq_true rfl, Nat.le_of_ble_eq_true rfl⟩ ⟨(by decide), _, _, _, rfl, rfl, rfl⟩ rfl (Nat.le_of_ble_eq_true rfl) ⟨Nat.le_of_ble_eq_true rfl, Nat.le_of_ble_eq_true rfl⟩ dX6_setDuty_27 ?_
    rintro _ _ ⟨rfl, rfl⟩
    exact g_iret hB hr rfl (Nat.le_of_ble_eq_true rfl) (Nat.le_of_ble_eq_true rfl) (⟨by simp only [rSetDuty, fl, c_11, decide_true, decide_false, not_true_eq_false, not_false_eq_true, Bool.or_true, Bool.true_or, Bool.or_false, Bool.false_or, cond_true, cond_false], by simp only [rSetDuty, fl, c_11, decide_true, decide_false, not_true_eq_false, not_false_eq_true, Bool.or_true, Bool.true_or, Bool.or_false, Bool.false_or, cond_true, cond_false]⟩) dX6_setDuty_30
  · refine g_iload_n hB 2 dX6_setDuty_14 rfl rfl ?_
    refine g_iconst hB (nI 0) dX6_setDuty_15 rfl ?_
    refine g_sipush hB (nI 255) dX6_setDuty_16 rfl ?_
    refine g_callSI hB (c_X6_in _ _ _ _) k_X6_77 yk_X6_in ⟨Nat.le_of_ble_eq_true rfl, Nat.le_of_ble_eq_true rfl⟩ rfl (Nat.le_of_ble_eq_true rfl) ⟨Nat.le_of_ble_eq_true rfl, Nat.le_of_ble_eq_true rfl⟩ dX6_setDuty_19 ?_
    rintro _ _ ⟨rfl, rfl⟩
    refine b_if_ne hB (inR b (nI 0) (nI 255)) 31 dX6_setDuty_22 (by decide) (fun c_22 => ?_) (fun c_22 => ?_)
    · obtain ⟨j, hj, rfl⟩ := rgB_t ((inR_rg 3 (by omega)).symm.trans c_11)
      have ij := ix_nI (show j < 2 ^ 31 by omega)
      refine g_aload_n hB 0 dX6_setDuty_31 rfl rfl ?_
      refine g_get (ci := 6) (T := TX6) (N := 26) hB in_X6 rfl 17 0 2 (by decide) (by decide) rfl tw_fl_X6_7 rfl dX6_setDuty_32 ?_
      refine g_iload_n hB 1 dX6_setDuty_35 rfl rfl ?_
      refine g_iald hB 18 0 j (n := 4) (by decide) rfl (by first | assumption | omega) (Nat.le_of_ble_eq_true rfl) dX6_setDuty_36 ?_
      refine g_istore_n hB 3 dX6_setDuty_37 rfl (by decide) ?_
      refine g_aload_n hB 0 dX6_setDuty_38 rfl rfl ?_
      refine g_get (ci := 6) (T := TX6) (N := 26) hB in_X6 rfl 17 0 2 (by decide) (by decide) rfl tw_fl_X6_7 rfl dX6_setDuty_39 ?_
      refine g_iload_n hB 1 dX6_setDuty_42 rfl rfl ?_
      refine g_iload_n hB 2 dX6_setDuty_43 rfl rfl ?_
      refine s_iast hB 18 0 j (n := 4) (by decide) (fun _ => rfl) (by first | assumption | omega) (Nat.le_of_ble_eq_true rfl) dX6_setDuty_44 ?_
      refine g_iload_n hB 3 dX6_setDuty_45 rfl rfl ?_
      exact g_iret hB hr rfl (Nat.le_of_ble_eq_true rfl) (Nat.le_of_ble_eq_true rfl) (⟨by simp only [rSetDuty, fl, c_11, c_22, ij, decide_true, decide_false, not_true_eq_false, not_false_eq_true, Bool.or_true, Bool.true_or, Bool.or_false, Bool.false_or, cond_true, cond_false], by simp only [rSetDuty, fl, c_11, c_22, ij, decide_true, decide_false, not_true_eq_false, not_false_eq_true, Bool.or_true, Bool.true_or, Bool.or_false, Bool.false_or, cond_true, cond_false]⟩) dX6_setDuty_46
    · refine g_aload_n hB 0 dX6_setDuty_25 rfl rfl ?_
      refine g_iconst hB (nI 1) dX6_setDuty_26 rfl ?_
      refine g_callVI hB (c_X6_fails _ _) k_X6_112 rfl yk_X6_fails ⟨Nat.le_of_ble_eq_true rfl, Nat.le_of_ble_eq_true rfl⟩ ⟨(by decide), _, _, _, rfl, rfl, rfl⟩ rfl (Nat.le_of_ble_eq_true rfl) ⟨Nat.le_of_ble_eq_true rfl, Nat.le_of_ble_eq_true rfl⟩ dX6_setDuty_27 ?_
      rintro _ _ ⟨rfl, rfl⟩
      exact g_iret hB hr rfl (Nat.le_of_ble_eq_true rfl) (Nat.le_of_ble_eq_true rfl) (⟨by simp only [rSetDuty, fl, c_11, c_22, decide_true, decide_false, not_true_eq_false, not_false_eq_true, Bool.or_true, Bool.true_or, Bool.or_false, Bool.false_or, cond_true, cond_false], by simp only [rSetDuty, fl, c_11, c_22, decide_true, decide_false, not_true_eq_false, not_false_eq_true, Bool.or_true, Bool.true_or, Bool.or_false, Bool.false_or, cond_true, cond_false]⟩) dX6_setDuty_30
theorem c_X6_comeBack (S : Mem) (x : Int32) : CV l yX6_comeBack cX6_comeBack 2 none { frames := 2, cells := 0, slots := 0, locals := 42 } D ad CNT ca SR (SH ad ca S) [.ref (ad 17 0), .int (x)] (PM ad ca (rComeBack S x)) := by
  refine CV.of _ RX6 (by decide +kernel) rfl (Nat.le_of_ble_eq_true rfl) ?_
  intro p9 e9 s9 m9 a9 b9 me9 c9 A9 hB hr hnm9
  refine g_aload_n hB 0 dX6_comeBack_0 rfl rfl ?_
  refine g_iload_n hB 1 dX6_comeBack_1 rfl rfl ?_
  refine g_callSI hB (c_X6_isPerson _ _) k_X6_121 yk_X6_isPerson ⟨Nat.le_of_ble_eq_true rfl, Nat.le_of_ble_eq_true rfl⟩ rfl (Nat.le_of_ble_eq_true rfl) ⟨Nat.le_of_ble_eq_true rfl, Nat.le_of_ble_eq_true rfl⟩ dX6_comeBack_2 ?_
  rintro _ _ ⟨rfl, rfl⟩
  refine b_if_ne hB (rgB x 8) 12 dX6_comeBack_5 (by decide) (fun c_5 => ?_) (fun c_5 => ?_)
  · obtain ⟨j, hj, rfl⟩ := rgB_t c_5
    have ij := ix_nI (show j < 2 ^ 31 by omega)
    refine g_aload_n hB 0 dX6_comeBack_12 rfl rfl ?_
    refine g_get (ci := 6) (T := TX6) (N := 26) hB in_X6 rfl 17 0 3 (by decide) (by decide) rfl tw_fl_X6_13 rfl dX6_comeBack_13 ?_
    refine g_iload_n hB 1 dX6_comeBack_16 rfl rfl ?_
    refine g_iald hB 18 1 j (n := 8) (by decide) rfl (by first | assumption | omega) (Nat.le_of_ble_eq_true rfl) dX6_comeBack_17 ?_
    refine g_iconst hB (nI 1) dX6_comeBack_18 rfl ?_
    refine g_icmp_eq hB 26 dX6_comeBack_19 (by decide) (fun c_19 => ?_) (fun c_19 => ?_)
    · refine g_iconst hB (nI 0) dX6_comeBack_26 rfl ?_
      refine s_put (ci := 6) (T := TX6) (N := 26) hB in_X6 rfl tyX6 tyX6_ok nmX6 17 0 0 (by decide) (by decide) rfl rfl tw_fl_X6_74 rfl rfl rfl (Nat.le_of_ble_eq_true rfl) dX6_comeBack_27 ?_
      refine g_aload_n hB 0 dX6_comeBack_30 rfl rfl ?_
      refine g_get (ci := 6) (T := TX6) (N := 26) hB in_X6 rfl 17 0 0 (by decide) (by decide) rfl tw_fl_X6_74 rfl dX6_comeBack_31 ?_
      refine g_top ((nI 0)) rfl ?_
      refine g_if_ne hB 44 dX6_comeBack_34 (by decide) (fun z => absurd rfl z) (fun _ => ?_)
      refine g_aload_n hB 0 dX6_comeBack_37 rfl rfl ?_
      refine g_get (ci := 6) (T := TX6) (N := 26) hB in_X6 rfl 17 0 3 (by decide) (by decide) rfl tw_fl_X6_13 rfl dX6_comeBack_38 ?_
      refine g_iload_n hB 1 dX6_comeBack_41 rfl rfl ?_
      refine g_iconst hB (nI 0) dX6_comeBack_42 rfl ?_
      refine s_iast hB 18 1 j (n := 8) (by decide) (fun _ => rfl) (by first | assumption | omega) (Nat.le_of_ble_eq_true rfl) dX6_comeBack_43 ?_
      exact g_vret hB hr (Nat.le_of_ble_eq_true rfl) (Nat.le_of_ble_eq_true rfl) (by first | (show _ = _; simp only [rComeBack, c_5, c_19, ij, decide_true, decide_false, cond_true, cond_false]) | (show _ = _; simp only [rComeBack, c_5, c_19, cond_true, cond_false])) dX6_comeBack_44
    · refine g_iconst hB (nI 2) dX6_comeBack_22 rfl ?_
      refine g_goto hB 27 dX6_comeBack_23 (by decide) ?_
      refine s_put (ci := 6) (T := TX6) (N := 26) hB in_X6 rfl tyX6 tyX6_ok nmX6 17 0 0 (by decide) (by decide) rfl rfl tw_fl_X6_74 rfl rfl rfl (Nat.le_of_ble_eq_true rfl) dX6_comeBack_27 ?_
      refine g_aload_n hB 0 dX6_comeBack_30 rfl rfl ?_
      refine g_get (ci := 6) (T := TX6) (N := 26) hB in_X6 rfl 17 0 0 (by decide) (by decide) rfl tw_fl_X6_74 rfl dX6_comeBack_31 ?_
      refine g_top ((nI 2)) rfl ?_
      refine g_if_ne hB 44 dX6_comeBack_34 (by decide) (fun _ => ?_) (fun z => absurd z (by decide))
      exact g_vret hB hr (Nat.le_of_ble_eq_true rfl) (Nat.le_of_ble_eq_true rfl) (by first | (show _ = _; simp only [rComeBack, c_5, c_19, ij, decide_true, decide_false, cond_true, cond_false]) | (show _ = _; simp only [rComeBack, c_5, c_19, cond_true, cond_false])) dX6_comeBack_44
  · refine g_iconst hB (nI 1) dX6_comeBack_8 rfl ?_
    refine g_goto hB 27 dX6_comeBack_9 (by decide) ?_
    refine s_put (ci := 6) (T := TX6) (N := 26) hB in_X6 rfl tyX6 tyX6_ok nmX6 17 0 0 (by decide) (by decide) rfl rfl tw_fl_X6_74 rfl rfl rfl (Nat.le_of_ble_eq_true rfl) dX6_comeBack_27 ?_
    refine g_aload_n hB 0 dX6_comeBack_30 rfl rfl ?_
    refine g_get (ci := 6) (T := TX6) (N := 26) hB in_X6 rfl 17 0 0 (by decide) (by decide) rfl tw_fl_X6_74 rfl dX6_comeBack_31 ?_
    refine g_top ((nI 1)) rfl ?_
    refine g_if_ne hB 44 dX6_comeBack_34 (by decide) (fun _ => ?_) (fun z => absurd z (by decide))
    exact g_vret hB hr (Nat.le_of_ble_eq_true rfl) (Nat.le_of_ble_eq_true rfl) (by first | (show _ = _; simp only [rComeBack, c_5, ij, decide_true, decide_false, cond_true, cond_false]) | (show _ = _; simp only [rComeBack, c_5, cond_true, cond_false])) dX6_comeBack_44
theorem c_X6_day (S : Mem) : CI l yX6_day cX6_day 1 (some .int) { frames := 0, cells := 0, slots := 0, locals := 0 } D ad CNT ca SR (SH ad ca S) [.ref (ad 17 0)] (PR ad ca (S 17 0 1) (uM S 17 0 0 (nI 0))) := by
  refine CI.of _ RX6 (by decide +kernel) rfl (Nat.le_of_ble_eq_true rfl) ?_
  intro p9 e9 s9 m9 a9 b9 me9 c9 A9 hB hr hnm9
  refine g_aload_n hB 0 dX6_day_0 rfl rfl ?_
  refine g_iconst hB (nI 0) dX6_day_1 rfl ?_
  refine s_put (ci := 6) (T := TX6) (N := 26) hB in_X6 rfl tyX6 tyX6_ok nmX6 17 0 0 (by decide) (by decide) rfl rfl tw_fl_X6_74 rfl rfl rfl (Nat.le_of_ble_eq_true rfl) dX6_day_2 ?_
  refine g_aload_n hB 0 dX6_day_5 rfl rfl ?_
  refine g_get (ci := 6) (T := TX6) (N := 26) hB in_X6 rfl 17 0 1 (by decide) (by decide) rfl tw_fl_X6_109 rfl dX6_day_6 ?_
  exact g_iret hB hr rfl (Nat.le_of_ble_eq_true rfl) (Nat.le_of_ble_eq_true rfl) (⟨rfl, rfl⟩) dX6_day_9
theorem c_X6_changes (S : Mem) : CI l yX6_changes cX6_changes 1 (some .int) { frames := 0, cells := 0, slots := 0, locals := 0 } D ad CNT ca SR (SH ad ca S) [.ref (ad 17 0)] (PR ad ca (S 17 0 11) (uM S 17 0 0 (nI 0))) := by
  refine CI.of _ RX6 (by decide +kernel) rfl (Nat.le_of_ble_eq_true rfl) ?_
  intro p9 e9 s9 m9 a9 b9 me9 c9 A9 hB hr hnm9
  refine g_aload_n hB 0 dX6_changes_0 rfl rfl ?_
  refine g_iconst hB (nI 0) dX6_changes_1 rfl ?_
  refine s_put (ci := 6) (T := TX6) (N := 26) hB in_X6 rfl tyX6 tyX6_ok nmX6 17 0 0 (by decide) (by decide) rfl rfl tw_fl_X6_74 rfl rfl rfl (Nat.le_of_ble_eq_true rfl) dX6_changes_2 ?_
  refine g_aload_n hB 0 dX6_changes_5 rfl rfl ?_
  refine g_get (ci := 6) (T := TX6) (N := 26) hB in_X6 rfl 17 0 11 (by decide) (by decide) rfl tw_fl_X6_84 rfl dX6_changes_6 ?_
  exact g_iret hB hr rfl (Nat.le_of_ble_eq_true rfl) (Nat.le_of_ble_eq_true rfl) (⟨rfl, rfl⟩) dX6_changes_9
theorem c_X6_addGroup (S : Mem) (x : Int32) (ng : Nat) (hg : S 17 0 4 = nI ng) (hng : ng ≤ 10) : CI l yX6_addGroup cX6_addGroup 2 (some .int) { frames := 2, cells := 0, slots := 0, locals := 43 } D ad CNT ca SR (SH ad ca S) [.ref (ad 17 0), .int (x)] (PR ad ca (rAddGroup (uM S 17 0 0 (nI 0)) x ng).1 (rAddGroup (uM S 17 0 0 (nI 0)) x ng).2) := by
  refine CI.of _ RX6 (by decide +kernel) rfl (Nat.le_of_ble_eq_true rfl) ?_
  intro p9 e9 s9 m9 a9 b9 me9 c9 A9 hB hr hnm9
  refine g_aload_n hB 0 dX6_addGroup_0 rfl rfl ?_
  refine g_iconst hB (nI 0) dX6_addGroup_1 rfl ?_
  refine s_put (ci := 6) (T := TX6) (N := 26) hB in_X6 rfl tyX6 tyX6_ok nmX6 17 0 0 (by decide) (by decide) rfl rfl tw_fl_X6_74 rfl rfl rfl (Nat.le_of_ble_eq_true rfl) dX6_addGroup_2 ?_
  refine g_aload_n hB 0 dX6_addGroup_5 rfl rfl ?_
  refine g_iload_n hB 1 dX6_addGroup_6 rfl rfl ?_
  refine g_callVI hB (c_X6_isGroup _ _ ng hg hng) k_X6_87 rfl yk_X6_isGroup ⟨Nat.le_of_ble_eq_true rfl, Nat.le_of_ble_eq_true rfl⟩ ⟨(by decide), _, _, _, rfl, rfl, rfl⟩ rfl (Nat.le_of_ble_eq_true rfl) ⟨Nat.le_of_ble_eq_true rfl, Nat.le_of_ble_eq_true rfl⟩ dX6_addGroup_7 ?_
  rintro _ _ ⟨rfl, rfl⟩
  refine b_if_ne hB (rgB x ng) 19 dX6_addGroup_10 (by decide) (fun c_10 => ?_) (fun c_10 => ?_)
  · refine g_aload_n hB 0 dX6_addGroup_19 rfl rfl ?_
    refine g_get (ci := 6) (T := TX6) (N := 26) hB in_X6 rfl 17 0 4 (by decide) (by decide) rfl tw_fl_X6_16 rfl dX6_addGroup_20 ?_
    refine g_top (nI ng) (hg) ?_
    refine g_bipush hB (nI 10) dX6_addGroup_23 rfl ?_
    refine n_icmp_ne hB ng 10 34 dX6_addGroup_25 (by decide) (by omega) (by omega) (fun c_25 => ?_) (fun c_25 => ?_)
    · have d_25 : decide (ng = 10) = false := decide_eq_false c_25
      refine g_aload_n hB 0 dX6_addGroup_34 rfl rfl ?_
      refine g_get (ci := 6) (T := TX6) (N := 26) hB in_X6 rfl 17 0 5 (by decide) (by decide) rfl tw_fl_X6_20 rfl dX6_addGroup_35 ?_
      refine g_aload_n hB 0 dX6_addGroup_38 rfl rfl ?_
      refine g_get (ci := 6) (T := TX6) (N := 26) hB in_X6 rfl 17 0 4 (by decide) (by decide) rfl tw_fl_X6_16 rfl dX6_addGroup_39 ?_
      refine g_top (nI ng) (hg) ?_
      refine g_iload_n hB 1 dX6_addGroup_42 rfl rfl ?_
      refine s_iast hB 18 2 ng (n := 10) (by decide) (fun _ => rfl) (by first | assumption | omega) (Nat.le_of_ble_eq_true rfl) dX6_addGroup_43 ?_
      refine g_aload_n hB 0 dX6_addGroup_44 rfl rfl ?_
      refine g_dup hB rfl dX6_addGroup_45 ?_
      refine g_get (ci := 6) (T := TX6) (N := 26) hB in_X6 rfl 17 0 4 (by decide) (by decide) rfl tw_fl_X6_16 rfl dX6_addGroup_46 ?_
      refine g_top (nI ng) (hg) ?_
      refine g_iconst hB (nI 1) dX6_addGroup_49 rfl ?_
      refine g_iadd hB dX6_addGroup_50 ?_
      refine g_top (nI (ng + 1)) (nI_add _ _) ?_
      refine s_put (ci := 6) (T := TX6) (N := 26) hB in_X6 rfl tyX6 tyX6_ok nmX6 17 0 4 (by decide) (by decide) rfl rfl tw_fl_X6_16 rfl rfl rfl (Nat.le_of_ble_eq_true rfl) dX6_addGroup_51 ?_
      refine g_aload_n hB 0 dX6_addGroup_54 rfl rfl ?_
      refine g_get (ci := 6) (T := TX6) (N := 26) hB in_X6 rfl 17 0 4 (by decide) (by decide) rfl tw_fl_X6_16 rfl dX6_addGroup_55 ?_
      refine g_top ((nI (ng + 1))) rfl ?_
      refine g_iconst hB (nI 1) dX6_addGroup_58 rfl ?_
      refine g_isub hB dX6_addGroup_59 ?_
      refine g_top (nI (ng)) (pk_sub (by omega)) ?_
      exact g_iret hB hr rfl (Nat.le_of_ble_eq_true rfl) (Nat.le_of_ble_eq_true rfl) (⟨by simp only [rAddGroup, fl, c_10, d_25, decide_true, decide_false, not_true_eq_false, not_false_eq_true, Bool.or_true, Bool.true_or, Bool.or_false, Bool.false_or, cond_true, cond_false], by simp only [rAddGroup, fl, c_10, d_25, decide_true, decide_false, not_true_eq_false, not_false_eq_true, Bool.or_true, Bool.true_or, Bool.or_false, Bool.false_or, cond_true, cond_false]⟩) dX6_addGroup_60
    · have d_25 : decide (ng = 10) = true := decide_eq_true c_25
      refine g_aload_n hB 0 dX6_addGroup_28 rfl rfl ?_
      refine g_iconst hB (nI 2) dX6_addGroup_29 rfl ?_
      refine g_callVI hB (c_X6_fails _ _) k_X6_112 rfl yk_X6_fails ⟨Nat.le_of_ble_eq_true rfl, Nat.le_of_ble_eq_true rfl⟩ ⟨(by decide), _, _, _, rfl, rfl, rfl⟩ rfl (Nat.le_of_ble_eq_true rfl) ⟨Nat.le_of_ble_eq_true rfl, Nat.le_of_ble_eq_true rfl⟩ dX6_addGroup_30 ?_
      rintro _ _ ⟨rfl, rfl⟩
      exact g_iret hB hr rfl (Nat.le_of_ble_eq_true rfl) (Nat.le_of_ble_eq_true rfl) (⟨by simp only [rAddGroup, fl, c_10, d_25, decide_true, decide_false, not_true_eq_false, not_false_eq_true, Bool.or_true, Bool.true_or, Bool.or_false, Bool.false_or, cond_true, cond_false], by simp only [rAddGroup, fl, c_10, d_25, decide_true, decide_false, not_true_eq_false, not_false_eq_true, Bool.or_true, Bool.true_or, Bool.or_false, Bool.false_or, cond_true, cond_false]⟩) dX6_addGroup_33
  · refine g_aload_n hB 0 dX6_addGroup_13 rfl rfl ?_
    refine g_iconst hB (nI 1) dX6_addGroup_14 rfl ?_
    refine g_callVI hB (c_X6_fails _ _) k_X6_112 rfl yk_X6_fails ⟨Nat.le_of_ble_eq_true rfl, Nat.le_of_ble_eq_true rfl⟩ ⟨(by decide), _, _, _, rfl, rfl, rfl⟩ rfl (Nat.le_of_ble_eq_true rfl) ⟨Nat.le_of_ble_eq_true rfl, Nat.le_of_ble_eq_true rfl⟩ dX6_addGroup_15 ?_
    rintro _ _ ⟨rfl, rfl⟩
    exact g_iret hB hr rfl (Nat.le_of_ble_eq_true rfl) (Nat.le_of_ble_eq_true rfl) (⟨by simp only [rAddGroup, fl, c_10, decide_true, decide_false, not_true_eq_false, not_false_eq_true, Bool.or_true, Bool.true_or, Bool.or_false, Bool.false_or, cond_true, cond_false], by simp only [rAddGroup, fl, c_10, decide_true, decide_false, not_true_eq_false, not_false_eq_true, Bool.or_true, Bool.true_or, Bool.or_false, Bool.false_or, cond_true, cond_false]⟩) dX6_addGroup_18
theorem c_X6_addMachine (S : Mem) (x : Int32) (ng nm : Nat) (hg : S 17 0 4 = nI ng) (hng : ng ≤ 10) (hm : S 17 0 6 = nI nm) (hnm : nm ≤ 12) : CI l yX6_addMachine cX6_addMachine 2 (some .int) { frames := 2, cells := 0, slots := 0, locals := 43 } D ad CNT ca SR (SH ad ca S) [.ref (ad 17 0), .int (x)] (PR ad ca (rAddMachine (uM S 17 0 0 (nI 0)) x ng nm).1 (rAddMachine (uM S 17 0 0 (nI 0)) x ng nm).2) := by
  refine CI.of _ RX6 (by decide +kernel) rfl (Nat.le_of_ble_eq_true rfl) ?_
  intro p9 e9 s9 m9 a9 b9 me9 c9 A9 hB hr hnm9
  refine g_aload_n hB 0 dX6_addMachine_0 rfl rfl ?_
  refine g_iconst hB (nI 0) dX6_addMachine_1 rfl ?_
  refine s_put (ci := 6) (T := TX6) (N := 26) hB in_X6 rfl tyX6 tyX6_ok nmX6 17 0 0 (by decide) (by decide) rfl rfl tw_fl_X6_74 rfl rfl rfl (Nat.le_of_ble_eq_true rfl) dX6_addMachine_2 ?_
  refine g_aload_n hB 0 dX6_addMachine_5 rfl rfl ?_
  refine g_iload_n hB 1 dX6_addMachine_6 rfl rfl ?_
  refine g_callVI hB (c_X6_isGroup _ _ ng hg hng) k_X6_87 rfl yk_X6_isGroup ⟨Nat.le_of_ble_eq_true rfl, Nat.le_of_ble_eq_true rfl⟩ ⟨(by decide), _, _, _, rfl, rfl, rfl⟩ rfl (Nat.le_of_ble_eq_true rfl) ⟨Nat.le_of_ble_eq_true rfl, Nat.le_of_ble_eq_true rfl⟩ dX6_addMachine_7 ?_
  rintro _ _ ⟨rfl, rfl⟩
  refine b_if_ne hB (rgB x ng) 19 dX6_addMachine_10 (by decide) (fun c_10 => ?_) (fun c_10 => ?_)
  · refine g_aload_n hB 0 dX6_addMachine_19 rfl rfl ?_
    refine g_get (ci := 6) (T := TX6) (N := 26) hB in_X6 rfl 17 0 6 (by decide) (by decide) rfl tw_fl_X6_81 rfl dX6_addMachine_20 ?_
    refine g_top (nI nm) (hm) ?_
    refine g_bipush hB (nI 12) dX6_addMachine_23 rfl ?_
    refine n_icmp_ne hB nm 12 34 dX6_addMachine_25 (by decide) (by omega) (by omega) (fun c_25 => ?_) (fun c_25 => ?_)
    · have d_25 : decide (nm = 12) = false := decide_eq_false c_25
      refine g_aload_n hB 0 dX6_addMachine_34 rfl rfl ?_
      refine g_get (ci := 6) (T := TX6) (N := 26) hB in_X6 rfl 17 0 8 (by decide) (by decide) rfl tw_fl_X6_26 rfl dX6_addMachine_35 ?_
      refine g_aload_n hB 0 dX6_addMachine_38 rfl rfl ?_
      refine g_get (ci := 6) (T := TX6) (N := 26) hB in_X6 rfl 17 0 6 (by decide) (by decide) rfl tw_fl_X6_81 rfl dX6_addMachine_39 ?_
      refine g_top (nI nm) (hm) ?_
      refine g_iload_n hB 1 dX6_addMachine_42 rfl rfl ?_
      refine s_iast hB 18 3 nm (n := 12) (by decide) (fun _ => rfl) (by first | assumption | omega) (Nat.le_of_ble_eq_true rfl) dX6_addMachine_43 ?_
      refine g_aload_n hB 0 dX6_addMachine_44 rfl rfl ?_
      refine g_dup hB rfl dX6_addMachine_45 ?_
      refine g_get (ci := 6) (T := TX6) (N := 26) hB in_X6 rfl 17 0 6 (by decide) (by decide) rfl tw_fl_X6_81 rfl dX6_addMachine_46 ?_
      refine g_top (nI nm) (hm) ?_
      refine g_iconst hB (nI 1) dX6_addMachine_49 rfl ?_
      refine g_iadd hB dX6_addMachine_50 ?_
      refine g_top (nI (nm + 1)) (nI_add _ _) ?_
      refine s_put (ci := 6) (T := TX6) (N := 26) hB in_X6 rfl tyX6 tyX6_ok nmX6 17 0 6 (by decide) (by decide) rfl rfl tw_fl_X6_81 rfl rfl rfl (Nat.le_of_ble_eq_true rfl) dX6_addMachine_51 ?_
      refine g_aload_n hB 0 dX6_addMachine_54 rfl rfl ?_
      refine g_get (ci := 6) (T := TX6) (N := 26) hB in_X6 rfl 17 0 6 (by decide) (by decide) rfl tw_fl_X6_81 rfl dX6_addMachine_55 ?_
      refine g_top ((nI (nm + 1))) rfl ?_
      refine g_iconst hB (nI 1) dX6_addMachine_58 rfl ?_
      refine g_isub hB dX6_addMachine_59 ?_
      refine g_top (nI (nm)) (pk_sub (by omega)) ?_
      exact g_iret hB hr rfl (Nat.le_of_ble_eq_true rfl) (Nat.le_of_ble_eq_true rfl) (⟨by simp only [rAddMachine, fl, c_10, d_25, decide_true, decide_false, not_true_eq_false, not_false_eq_true, Bool.or_true, Bool.true_or, Bool.or_false, Bool.false_or, cond_true, cond_false], by simp only [rAddMachine, fl, c_10, d_25, decide_true, decide_false, not_true_eq_false, not_false_eq_true, Bool.or_true, Bool.true_or, Bool.or_false, Bool.false_or, cond_true, cond_false]⟩) dX6_addMachine_60
    · have d_25 : decide (nm = 12) = true := decide_eq_true c_25
      refine g_aload_n hB 0 dX6_addMachine_28 rfl rfl ?_
      refine g_iconst hB (nI 2) dX6_addMachine_29 rfl ?_
      refine g_callVI hB (c_X6_fails _ _) k_X6_112 rfl yk_X6_fails ⟨Nat.le_of_ble_eq_true rfl, Nat.le_of_ble_eq_true rfl⟩ ⟨(by decide), _, _, _, rfl, rfl, rfl⟩ rfl (Nat.le_of_ble_eq_true rfl) ⟨Nat.le_of_ble_eq_true rfl, Nat.le_of_ble_eq_true rfl⟩ dX6_addMachine_30 ?_
      rintro _ _ ⟨rfl, rfl⟩
      exact g_iret hB hr rfl (Nat.le_of_ble_eq_true rfl) (Nat.le_of_ble_eq_true rfl) (⟨by simp only [rAddMachine, fl, c_10, d_25, decide_true, decide_false, not_true_eq_false, not_false_eq_true, Bool.or_true, Bool.true_or, Bool.or_false, Bool.false_or, cond_true, cond_false], by simp only [rAddMachine, fl, c_10, d_25, decide_true, decide_false, not_true_eq_false, not_false_eq_true, Bool.or_true, Bool.true_or, Bool.or_false, Bool.false_or, cond_true, cond_false]⟩) dX6_addMachine_33
  · refine g_aload_n hB 0 dX6_addMachine_13 rfl rfl ?_
    refine g_iconst hB (nI 1) dX6_addMachine_14 rfl ?_
    refine g_callVI hB (c_X6_fails _ _) k_X6_112 rfl yk_X6_fails ⟨Nat.le_of_ble_eq_true rfl, Nat.le_of_ble_eq_true rfl⟩ ⟨(by decide), _, _, _, rfl, rfl, rfl⟩ rfl (Nat.le_of_ble_eq_true rfl) ⟨Nat.le_of_ble_eq_true rfl, Nat.le_of_ble_eq_true rfl⟩ dX6_addMachine_15 ?_
    rintro _ _ ⟨rfl, rfl⟩
    exact g_iret hB hr rfl (Nat.le_of_ble_eq_true rfl) (Nat.le_of_ble_eq_true rfl) (⟨by simp only [rAddMachine, fl, c_10, decide_true, decide_false, not_true_eq_false, not_false_eq_true, Bool.or_true, Bool.true_or, Bool.or_false, Bool.false_or, cond_true, cond_false], by simp only [rAddMachine, fl, c_10, decide_true, decide_false, not_true_eq_false, not_false_eq_true, Bool.or_true, Bool.true_or, Bool.or_false, Bool.false_or, cond_true, cond_false]⟩) dX6_addMachine_18
theorem c_X6_work (S : Mem) (x d : Int32) (nm : Nat) (hm : S 17 0 6 = nI nm) (hnm : nm ≤ 12) (hT : TK S) : CI l yX6_work cX6_work 3 (some .int) { frames := 2, cells := 0, slots := 0, locals := 45 } D ad CNT ca SR (SH ad ca S) [.ref (ad 17 0), .int (x), .int (d)] (PR ad ca (rWork (uM S 17 0 0 (nI 0)) x d nm).1 (rWork (uM S 17 0 0 (nI 0)) x d nm).2) := by
  refine CI.of _ RX6 (by decide +kernel) rfl (Nat.le_of_ble_eq_true rfl) ?_
  intro p9 e9 s9 m9 a9 b9 me9 c9 A9 hB hr hnm9
  refine g_aload_n hB 0 dX6_work_0 rfl rfl ?_
  refine g_iconst hB (nI 0) dX6_work_1 rfl ?_
  refine s_put (ci := 6) (T := TX6) (N := 26) hB in_X6 rfl tyX6 tyX6_ok nmX6 17 0 0 (by decide) (by decide) rfl rfl tw_fl_X6_74 rfl rfl rfl (Nat.le_of_ble_eq_true rfl) dX6_work_2 ?_
  refine g_aload_n hB 0 dX6_work_5 rfl rfl ?_
  refine g_iload_n hB 1 dX6_work_6 rfl rfl ?_
  refine g_callVI hB (c_X6_isMachine _ _ nm hm hnm) k_X6_145 rfl yk_X6_isMachine ⟨Nat.le_of_ble_eq_true rfl, Nat.le_of_ble_eq_true rfl⟩ ⟨(by decide), _, _, _, rfl, rfl, rfl⟩ rfl (Nat.le_of_ble_eq_true rfl) ⟨Nat.le_of_ble_eq_true rfl, Nat.le_of_ble_eq_true rfl⟩ dX6_work_7 ?_
  rintro _ _ ⟨rfl, rfl⟩
  refine b_if_ne hB (rgB x nm) 19 dX6_work_10 (by decide) (fun c_10 => ?_) (fun c_10 => ?_)
  · obtain ⟨j, hj, rfl⟩ := rgB_t c_10
    have ij := ix_nI (show j < 2 ^ 31 by omega)
    refine g_iload_n hB 2 dX6_work_19 rfl rfl ?_
    refine g_iconst hB (nI 1) dX6_work_20 rfl ?_
    refine g_bipush hB (nI 30) dX6_work_21 rfl ?_
    refine g_callSI hB (c_X6_in _ _ _ _) k_X6_77 yk_X6_in ⟨Nat.le_of_ble_eq_true rfl, Nat.le_of_ble_eq_true rfl⟩ rfl (Nat.le_of_ble_eq_true rfl) ⟨Nat.le_of_ble_eq_true rfl, Nat.le_of_ble_eq_true rfl⟩ dX6_work_23 ?_
    rintro _ _ ⟨rfl, rfl⟩
    refine b_if_ne hB (inR d (nI 1) (nI 30)) 35 dX6_work_26 (by decide) (fun c_26 => ?_) (fun c_26 => ?_)
    · refine g_aload_n hB 0 dX6_work_35 rfl rfl ?_
      refine g_iload_n hB 1 dX6_work_36 rfl rfl ?_
      refine g_callVI hB (c_X6_works _ j (by omega)) k_X6_135 rfl yk_X6_works ⟨Nat.le_of_ble_eq_true rfl, Nat.le_of_ble_eq_true rfl⟩ ⟨(by decide), _, _, _, rfl, rfl, rfl⟩ rfl (Nat.le_of_ble_eq_true rfl) ⟨Nat.le_of_ble_eq_true rfl, Nat.le_of_ble_eq_true rfl⟩ dX6_work_37 ?_
      rintro _ _ ⟨rfl, rfl⟩
      refine b_if_ne hB (decide ((uM S 17 0 0 (nI 0)) 17 0 1 < (uM S 17 0 0 (nI 0)) 18 4 j)) 51 dX6_work_40 (by decide) (fun c_40 => ?_) (fun c_40 => ?_)
      · refine g_aload_n hB 0 dX6_work_51 rfl rfl ?_
        refine g_iconst hB (nI 3) dX6_work_52 rfl ?_
        refine g_callVI hB (c_X6_fails _ _) k_X6_112 rfl yk_X6_fails ⟨Nat.le_of_ble_eq_true rfl, Nat.le_of_ble_eq_true rfl⟩ ⟨(by decide), _, _, _, rfl, rfl, rfl⟩ rfl (Nat.le_of_ble_eq_true rfl) ⟨Nat.le_of_ble_eq_true rfl, Nat.le_of_ble_eq_true rfl⟩ dX6_work_53 ?_
        rintro _ _ ⟨rfl, rfl⟩
        exact g_iret hB hr rfl (Nat.le_of_ble_eq_true rfl) (Nat.le_of_ble_eq_true rfl) (⟨by first | (simp only [rWork, fl, c_10, c_26, c_40, ij, cond_true, cond_false]; done) | (simp only [rWork, fl, c_10, c_26, c_40, cond_true, cond_false]; done), by first | (simp only [rWork, fl, c_10, c_26, c_40, ij, cond_true, cond_false]; done) | (simp only [rWork, fl, c_10, c_26, c_40, cond_true, cond_false]; done)⟩) dX6_work_56
      · refine g_aload_n hB 0 dX6_work_43 rfl rfl ?_
        refine g_iload_n hB 1 dX6_work_44 rfl rfl ?_
        refine g_callVI hB (c_X6_isHalted _ j (by omega) hT) k_X6_118 rfl yk_X6_isHalted ⟨Nat.le_of_ble_eq_true rfl, Nat.le_of_ble_eq_true rfl⟩ ⟨(by decide), _, _, _, rfl, rfl, rfl⟩ rfl (Nat.le_of_ble_eq_true rfl) ⟨Nat.le_of_ble_eq_true rfl, Nat.le_of_ble_eq_true rfl⟩ dX6_work_45 ?_
        rintro _ _ ⟨rfl, rfl⟩
        refine b_if_eq hB (mHalt (uM S 17 0 0 (nI 0)) j) 57 dX6_work_48 (by decide) (fun c_48 => ?_) (fun c_48 => ?_)
        · refine g_aload_n hB 0 dX6_work_57 rfl rfl ?_
          refine g_get (ci := 6) (T := TX6) (N := 26) hB in_X6 rfl 17 0 9 (by decide) (by decide) rfl tw_fl_X6_29 rfl dX6_work_58 ?_
          refine g_iload_n hB 1 dX6_work_61 rfl rfl ?_
          refine g_aload_n hB 0 dX6_work_62 rfl rfl ?_
          refine g_get (ci := 6) (T := TX6) (N := 26) hB in_X6 rfl 17 0 1 (by decide) (by decide) rfl tw_fl_X6_109 rfl dX6_work_63 ?_
          refine g_iload_n hB 2 dX6_work_66 rfl rfl ?_
          refine g_iadd hB dX6_work_67 ?_
          refine s_iast hB 18 4 j (n := 12) (by decide) (fun _ => rfl) (by first | assumption | omega) (Nat.le_of_ble_eq_true rfl) dX6_work_68 ?_
          refine g_aload_n hB 0 dX6_work_69 rfl rfl ?_
          refine g_get (ci := 6) (T := TX6) (N := 26) hB in_X6 rfl 17 0 9 (by decide) (by decide) rfl tw_fl_X6_29 rfl dX6_work_70 ?_
          refine g_iload_n hB 1 dX6_work_73 rfl rfl ?_
          refine g_iald hB 18 4 j (n := 12) (by decide) rfl (by first | assumption | omega) (Nat.le_of_ble_eq_true rfl) dX6_work_74 ?_
          refine g_top (((uM S 17 0 0 (nI 0)) 17 0 1 + d)) (uM_s) ?_
          exact g_iret hB hr rfl (Nat.le_of_ble_eq_true rfl) (Nat.le_of_ble_eq_true rfl) (⟨by first | (simp only [rWork, fl, c_10, c_26, c_40, c_48, ij, cond_true, cond_false]; done) | (simp only [rWork, fl, c_10, c_26, c_40, c_48, cond_true, cond_false]; done), by first | (simp only [rWork, fl, c_10, c_26, c_40, c_48, ij, cond_true, cond_false]; done) | (simp only [rWork, fl, c_10, c_26, c_40, c_48, cond_true, cond_false]; done)⟩) dX6_work_75
        · refine g_aload_n hB 0 dX6_work_51 rfl rfl ?_
          refine g_iconst hB (nI 3) dX6_work_52 rfl ?_
          refine g_callVI hB (c_X6_fails _ _) k_X6_112 rfl yk_X6_fails ⟨Nat.le_of_ble_eq_true rfl, Nat.le_of_ble_eq_true rfl⟩ ⟨(by decide), _, _, _, rfl, rfl, rfl⟩ rfl (Nat.le_of_ble_eq_true rfl) ⟨Nat.le_of_ble_eq_true rfl, Nat.le_of_ble_eq_true rfl⟩ dX6_work_53 ?_
          rintro _ _ ⟨rfl, rfl⟩
          exact g_iret hB hr rfl (Nat.le_of_ble_eq_true rfl) (Nat.le_of_ble_eq_true rfl) (⟨by first | (simp only [rWork, fl, c_10, c_26, c_40, c_48, ij, cond_true, cond_false]; done) | (simp only [rWork, fl, c_10, c_26, c_40, c_48, cond_true, cond_false]; done), by first | (simp only [rWork, fl, c_10, c_26, c_40, c_48, ij, cond_true, cond_false]; done) | (simp only [rWork, fl, c_10, c_26, c_40, c_48, cond_true, cond_false]; done)⟩) dX6_work_56
    · refine g_aload_n hB 0 dX6_work_29 rfl rfl ?_
      refine g_iconst hB (nI 2) dX6_work_30 rfl ?_
      refine g_callVI hB (c_X6_fails _ _) k_X6_112 rfl yk_X6_fails ⟨Nat.le_of_ble_eq_true rfl, Nat.le_of_ble_eq_true rfl⟩ ⟨(by decide), _, _, _, rfl, rfl, rfl⟩ rfl (Nat.le_of_ble_eq_true rfl) ⟨Nat.le_of_ble_eq_true rfl, Nat.le_of_ble_eq_true rfl⟩ dX6_work_31 ?_
      rintro _ _ ⟨rfl, rfl⟩
      exact g_iret hB hr rfl (Nat.le_of_ble_eq_true rfl) (Nat.le_of_ble_eq_true rfl) (⟨by first | (simp only [rWork, fl, c_10, c_26, ij, cond_true, cond_false]; done) | (simp only [rWork, fl, c_10, c_26, cond_true, cond_false]; done), by first | (simp only [rWork, fl, c_10, c_26, ij, cond_true, cond_false]; done) | (simp only [rWork, fl, c_10, c_26, cond_true, cond_false]; done)⟩) dX6_work_34
  · refine g_aload_n hB 0 dX6_work_13 rfl rfl ?_
    refine g_iconst hB (nI 1) dX6_work_14 rfl ?_
    refine g_callVI hB (c_X6_fails _ _) k_X6_112 rfl yk_X6_fails ⟨Nat.le_of_ble_eq_true rfl, Nat.le_of_ble_eq_true rfl⟩ ⟨(by decide), _, _, _, rfl, rfl, rfl⟩ rfl (Nat.le_of_ble_eq_true rfl) ⟨Nat.le_of_ble_eq_true rfl, Nat.le_of_ble_eq_true rfl⟩ dX6_work_15 ?_
    rintro _ _ ⟨rfl, rfl⟩
    exact g_iret hB hr rfl (Nat.le_of_ble_eq_true rfl) (Nat.le_of_ble_eq_true rfl) (⟨by first | (simp only [rWork, fl, c_10, ij, cond_true, cond_false]; done) | (simp only [rWork, fl, c_10, cond_true, cond_false]; done), by first | (simp only [rWork, fl, c_10, ij, cond_true, cond_false]; done) | (simp only [rWork, fl, c_10, cond_true, cond_false]; done)⟩) dX6_work_18
theorem c_X6_setPace (S : Mem) (x : Int32) : CI l yX6_setPace cX6_setPace 3 (some .int) { frames := 1, cells := 0, slots := 0, locals := 22 } D ad CNT ca SR (SH ad ca S) [.ref (ad 17 0), .int (x)] (PR ad ca (rSetPace (uM S 17 0 0 (nI 0)) x).1 (rSetPace (uM S 17 0 0 (nI 0)) x).2) := by
  refine CI.of _ RX6 (by decide +kernel) rfl (Nat.le_of_ble_eq_true rfl) ?_
  intro p9 e9 s9 m9 a9 b9 me9 c9 A9 hB hr hnm9
  refine g_aload_n hB 0 dX6_setPace_0 rfl rfl ?_
  refine g_iconst hB (nI 0) dX6_setPace_1 rfl ?_
  refine s_put (ci := 6) (T := TX6) (N := 26) hB in_X6 rfl tyX6 tyX6_ok nmX6 17 0 0 (by decide) (by decide) rfl rfl tw_fl_X6_74 rfl rfl rfl (Nat.le_of_ble_eq_true rfl) dX6_setPace_2 ?_
  refine g_iload_n hB 1 dX6_setPace_5 rfl rfl ?_
  refine g_iconst hB (nI 0) dX6_setPace_6 rfl ?_
  refine g_bipush hB (nI 12) dX6_setPace_7 rfl ?_
  refine g_callSI hB (c_X6_in _ _ _ _) k_X6_77 yk_X6_in ⟨Nat.le_of_ble_eq_true rfl, Nat.le_of_ble_eq_true rfl⟩ rfl (Nat.le_of_ble_eq_true rfl) ⟨Nat.le_of_ble_eq_true rfl, Nat.le_of_ble_eq_true rfl⟩ dX6_setPace_9 ?_
  rintro _ _ ⟨rfl, rfl⟩
  refine b_if_ne hB (inR x (nI 0) (nI 12)) 21 dX6_setPace_12 (by decide) (fun c_12 => ?_) (fun c_12 => ?_)
  · refine g_aload_n hB 0 dX6_setPace_21 rfl rfl ?_
    refine g_get (ci := 6) (T := TX6) (N := 26) hB in_X6 rfl 17 0 7 (by decide) (by decide) rfl tw_fl_X6_23 rfl dX6_setPace_22 ?_
    refine g_istore_n hB 2 dX6_setPace_25 rfl (by decide) ?_
    refine g_aload_n hB 0 dX6_setPace_26 rfl rfl ?_
    refine g_iload_n hB 1 dX6_setPace_27 rfl rfl ?_
    refine s_put (ci := 6) (T := TX6) (N := 26) hB in_X6 rfl tyX6 tyX6_ok nmX6 17 0 7 (by decide) (by decide) rfl rfl tw_fl_X6_23 rfl rfl rfl (Nat.le_of_ble_eq_true rfl) dX6_setPace_28 ?_
    refine g_iload_n hB 2 dX6_setPace_31 rfl rfl ?_
    exact g_iret hB hr rfl (Nat.le_of_ble_eq_true rfl) (Nat.le_of_ble_eq_true rfl) (⟨by simp only [rSetPace, fl, c_12, decide_true, decide_false, not_true_eq_false, not_false_eq_true, Bool.or_true, Bool.true_or, Bool.or_false, Bool.false_or, cond_true, cond_false], by simp only [rSetPace, fl, c_12, decide_true, decide_false, not_true_eq_false, not_false_eq_true, Bool.or_true, Bool.true_or, Bool.or_false, Bool.false_or, cond_true, cond_false]⟩) dX6_setPace_32
  · refine g_aload_n hB 0 dX6_setPace_15 rfl rfl ?_
    refine g_iconst hB (nI 1) dX6_setPace_16 rfl ?_
    refine g_callVI hB (c_X6_fails _ _) k_X6_112 rfl yk_X6_fails ⟨Nat.le_of_ble_eq_true rfl, Nat.le_of_ble_eq_true rfl⟩ ⟨(by decide), _, _, _, rfl, rfl, rfl⟩ rfl (Nat.le_of_ble_eq_true rfl) ⟨Nat.le_of_ble_eq_true rfl, Nat.le_of_ble_eq_true rfl⟩ dX6_setPace_17 ?_
    rintro _ _ ⟨rfl, rfl⟩
    exact g_iret hB hr rfl (Nat.le_of_ble_eq_true rfl) (Nat.le_of_ble_eq_true rfl) (⟨by simp only [rSetPace, fl, c_12, decide_true, decide_false, not_true_eq_false, not_false_eq_true, Bool.or_true, Bool.true_or, Bool.or_false, Bool.false_or, cond_true, cond_false], by simp only [rSetPace, fl, c_12, decide_true, decide_false, not_true_eq_false, not_false_eq_true, Bool.or_true, Bool.true_or, Bool.or_false, Bool.false_or, cond_true, cond_false]⟩) dX6_setPace_20
theorem c_X6_isBusy (S : Mem) (x : Int32) (nm : Nat) (hm : S 17 0 6 = nI nm) (hnm : nm ≤ 12) : CI l yX6_isBusy cX6_isBusy 2 (some .boolean) { frames := 2, cells := 0, slots := 0, locals := 43 } D ad CNT ca SR (SH ad ca S) [.ref (ad 17 0), .int (x)] (PR ad ca (rIsBusy S x nm).1 (rIsBusy S x nm).2) := by
  refine CI.of _ RX6 (by decide +kernel) rfl (Nat.le_of_ble_eq_true rfl) ?_
  intro p9 e9 s9 m9 a9 b9 me9 c9 A9 hB hr hnm9
  refine g_aload_n hB 0 dX6_isBusy_0 rfl rfl ?_
  refine g_aload_n hB 0 dX6_isBusy_1 rfl rfl ?_
  refine g_iload_n hB 1 dX6_isBusy_2 rfl rfl ?_
  refine g_callVI hB (c_X6_isMachine _ _ nm hm hnm) k_X6_145 rfl yk_X6_isMachine ⟨Nat.le_of_ble_eq_true rfl, Nat.le_of_ble_eq_true rfl⟩ ⟨(by decide), _, _, _, rfl, rfl, rfl⟩ rfl (Nat.le_of_ble_eq_true rfl) ⟨Nat.le_of_ble_eq_true rfl, Nat.le_of_ble_eq_true rfl⟩ dX6_isBusy_3 ?_
  rintro _ _ ⟨rfl, rfl⟩
  refine b_if_eq hB (rgB x nm) 13 dX6_isBusy_6 (by decide) (fun c_6 => ?_) (fun c_6 => ?_)
  · refine g_iconst hB (nI 1) dX6_isBusy_13 rfl ?_
    refine s_put (ci := 6) (T := TX6) (N := 26) hB in_X6 rfl tyX6 tyX6_ok nmX6 17 0 0 (by decide) (by decide) rfl rfl tw_fl_X6_74 rfl rfl rfl (Nat.le_of_ble_eq_true rfl) dX6_isBusy_14 ?_
    refine g_aload_n hB 0 dX6_isBusy_17 rfl rfl ?_
    refine g_get (ci := 6) (T := TX6) (N := 26) hB in_X6 rfl 17 0 0 (by decide) (by decide) rfl tw_fl_X6_74 rfl dX6_isBusy_18 ?_
    refine g_top ((nI 1)) rfl ?_
    refine g_if_ne hB 36 dX6_isBusy_21 (by decide) (fun _ => ?_) (fun z => absurd z (by decide))
    refine g_iconst hB (nI 0) dX6_isBusy_36 rfl ?_
    exact g_iret hB hr rfl (Nat.le_of_ble_eq_true rfl) (Nat.le_of_ble_eq_true rfl) (⟨by first | (simp only [rIsBusy, c_6, ij, cond_true, cond_false]; rfl) | (simp only [rIsBusy, c_6, cond_true, cond_false]; done), by first | (simp only [rIsBusy, c_6, ij, cond_true, cond_false]; done) | (simp only [rIsBusy, c_6, cond_true, cond_false]; done)⟩) dX6_isBusy_37
  · obtain ⟨j, hj, rfl⟩ := rgB_t c_6
    have ij := ix_nI (show j < 2 ^ 31 by omega)
    refine g_iconst hB (nI 0) dX6_isBusy_9 rfl ?_
    refine g_goto hB 14 dX6_isBusy_10 (by decide) ?_
    refine s_put (ci := 6) (T := TX6) (N := 26) hB in_X6 rfl tyX6 tyX6_ok nmX6 17 0 0 (by decide) (by decide) rfl rfl tw_fl_X6_74 rfl rfl rfl (Nat.le_of_ble_eq_true rfl) dX6_isBusy_14 ?_
    refine g_aload_n hB 0 dX6_isBusy_17 rfl rfl ?_
    refine g_get (ci := 6) (T := TX6) (N := 26) hB in_X6 rfl 17 0 0 (by decide) (by decide) rfl tw_fl_X6_74 rfl dX6_isBusy_18 ?_
    refine g_top ((nI 0)) rfl ?_
    refine g_if_ne hB 36 dX6_isBusy_21 (by decide) (fun z => absurd rfl z) (fun _ => ?_)
    refine g_aload_n hB 0 dX6_isBusy_24 rfl rfl ?_
    refine g_iload_n hB 1 dX6_isBusy_25 rfl rfl ?_
    refine g_callVI hB (c_X6_works _ j (by omega)) k_X6_135 rfl yk_X6_works ⟨Nat.le_of_ble_eq_true rfl, Nat.le_of_ble_eq_true rfl⟩ ⟨(by decide), _, _, _, rfl, rfl, rfl⟩ rfl (Nat.le_of_ble_eq_true rfl) ⟨Nat.le_of_ble_eq_true rfl, Nat.le_of_ble_eq_true rfl⟩ dX6_isBusy_26 ?_
    rintro _ _ ⟨rfl, rfl⟩
    refine b_if_eq hB (decide (S 17 0 1 < S 18 4 j)) 36 dX6_isBusy_29 (by decide) (fun c_29 => ?_) (fun c_29 => ?_)
    · refine g_iconst hB (nI 0) dX6_isBusy_36 rfl ?_
      exact g_iret hB hr rfl (Nat.le_of_ble_eq_true rfl) (Nat.le_of_ble_eq_true rfl) (⟨by first | (simp only [rIsBusy, c_6, c_29, ij, cond_true, cond_false]; rfl) | (simp only [rIsBusy, c_6, c_29, cond_true, cond_false]; done), by first | (simp only [rIsBusy, c_6, c_29, ij, cond_true, cond_false]; done) | (simp only [rIsBusy, c_6, c_29, cond_true, cond_false]; done)⟩) dX6_isBusy_37
    · refine g_iconst hB (nI 1) dX6_isBusy_32 rfl ?_
      refine g_goto hB 37 dX6_isBusy_33 (by decide) ?_
      exact g_iret hB hr rfl (Nat.le_of_ble_eq_true rfl) (Nat.le_of_ble_eq_true rfl) (⟨by first | (simp only [rIsBusy, c_6, c_29, ij, cond_true, cond_false]; rfl) | (simp only [rIsBusy, c_6, c_29, cond_true, cond_false]; done), by first | (simp only [rIsBusy, c_6, c_29, ij, cond_true, cond_false]; done) | (simp only [rIsBusy, c_6, c_29, cond_true, cond_false]; done)⟩) dX6_isBusy_37
theorem c_X6_isStopped (S : Mem) (x : Int32) (nm : Nat) (hm : S 17 0 6 = nI nm) (hnm : nm ≤ 12) (hT : TK S) : CI l yX6_isStopped cX6_isStopped 2 (some .boolean) { frames := 2, cells := 0, slots := 0, locals := 45 } D ad CNT ca SR (SH ad ca S) [.ref (ad 17 0), .int (x)] (PR ad ca (rIsStopped S x nm).1 (rIsStopped S x nm).2) := by
  refine CI.of _ RX6 (by decide +kernel) rfl (Nat.le_of_ble_eq_true rfl) ?_
  intro p9 e9 s9 m9 a9 b9 me9 c9 A9 hB hr hnm9
  refine g_aload_n hB 0 dX6_isStopped_0 rfl rfl ?_
  refine g_aload_n hB 0 dX6_isStopped_1 rfl rfl ?_
  refine g_iload_n hB 1 dX6_isStopped_2 rfl rfl ?_
  refine g_callVI hB (c_X6_isMachine _ _ nm hm hnm) k_X6_145 rfl yk_X6_isMachine ⟨Nat.le_of_ble_eq_true rfl, Nat.le_of_ble_eq_true rfl⟩ ⟨(by decide), _, _, _, rfl, rfl, rfl⟩ rfl (Nat.le_of_ble_eq_true rfl) ⟨Nat.le_of_ble_eq_true rfl, Nat.le_of_ble_eq_true rfl⟩ dX6_isStopped_3 ?_
  rintro _ _ ⟨rfl, rfl⟩
  refine b_if_eq hB (rgB x nm) 13 dX6_isStopped_6 (by decide) (fun c_6 => ?_) (fun c_6 => ?_)
  · refine g_iconst hB (nI 1) dX6_isStopped_13 rfl ?_
    refine s_put (ci := 6) (T := TX6) (N := 26) hB in_X6 rfl tyX6 tyX6_ok nmX6 17 0 0 (by decide) (by decide) rfl rfl tw_fl_X6_74 rfl rfl rfl (Nat.le_of_ble_eq_true rfl) dX6_isStopped_14 ?_
    refine g_aload_n hB 0 dX6_isStopped_17 rfl rfl ?_
    refine g_get (ci := 6) (T := TX6) (N := 26) hB in_X6 rfl 17 0 0 (by decide) (by decide) rfl tw_fl_X6_74 rfl dX6_isStopped_18 ?_
    refine g_top ((nI 1)) rfl ?_
    refine g_if_ne hB 36 dX6_isStopped_21 (by decide) (fun _ => ?_) (fun z => absurd z (by decide))
    refine g_iconst hB (nI 0) dX6_isStopped_36 rfl ?_
    exact g_iret hB hr rfl (Nat.le_of_ble_eq_true rfl) (Nat.le_of_ble_eq_true rfl) (⟨by first | (simp only [rIsStopped, c_6, ij, cond_true, cond_false]; rfl) | (simp only [rIsStopped, c_6, cond_true, cond_false]; done), by first | (simp only [rIsStopped, c_6, ij, cond_true, cond_false]; done) | (simp only [rIsStopped, c_6, cond_true, cond_false]; done)⟩) dX6_isStopped_37
  · obtain ⟨j, hj, rfl⟩ := rgB_t c_6
    have ij := ix_nI (show j < 2 ^ 31 by omega)
    refine g_iconst hB (nI 0) dX6_isStopped_9 rfl ?_
    refine g_goto hB 14 dX6_isStopped_10 (by decide) ?_
    refine s_put (ci := 6) (T := TX6) (N := 26) hB in_X6 rfl tyX6 tyX6_ok nmX6 17 0 0 (by decide) (by decide) rfl rfl tw_fl_X6_74 rfl rfl rfl (Nat.le_of_ble_eq_true rfl) dX6_isStopped_14 ?_
    refine g_aload_n hB 0 dX6_isStopped_17 rfl rfl ?_
    refine g_get (ci := 6) (T := TX6) (N := 26) hB in_X6 rfl 17 0 0 (by decide) (by decide) rfl tw_fl_X6_74 rfl dX6_isStopped_18 ?_
    refine g_top ((nI 0)) rfl ?_
    refine g_if_ne hB 36 dX6_isStopped_21 (by decide) (fun z => absurd rfl z) (fun _ => ?_)
    refine g_aload_n hB 0 dX6_isStopped_24 rfl rfl ?_
    refine g_iload_n hB 1 dX6_isStopped_25 rfl rfl ?_
    refine g_callVI hB (c_X6_isHalted _ j (by omega) hT) k_X6_118 rfl yk_X6_isHalted ⟨Nat.le_of_ble_eq_true rfl, Nat.le_of_ble_eq_true rfl⟩ ⟨(by decide), _, _, _, rfl, rfl, rfl⟩ rfl (Nat.le_of_ble_eq_true rfl) ⟨Nat.le_of_ble_eq_true rfl, Nat.le_of_ble_eq_true rfl⟩ dX6_isStopped_26 ?_
    rintro _ _ ⟨rfl, rfl⟩
    refine b_if_eq hB (mHalt S j) 36 dX6_isStopped_29 (by decide) (fun c_29 => ?_) (fun c_29 => ?_)
    · refine g_iconst hB (nI 0) dX6_isStopped_36 rfl ?_
      exact g_iret hB hr rfl (Nat.le_of_ble_eq_true rfl) (Nat.le_of_ble_eq_true rfl) (⟨by first | (simp only [rIsStopped, c_6, c_29, ij, cond_true, cond_false]; rfl) | (simp only [rIsStopped, c_6, c_29, cond_true, cond_false]; done), by first | (simp only [rIsStopped, c_6, c_29, ij, cond_true, cond_false]; done) | (simp only [rIsStopped, c_6, c_29, cond_true, cond_false]; done)⟩) dX6_isStopped_37
    · refine g_iconst hB (nI 1) dX6_isStopped_32 rfl ?_
      refine g_goto hB 37 dX6_isStopped_33 (by decide) ?_
      exact g_iret hB hr rfl (Nat.le_of_ble_eq_true rfl) (Nat.le_of_ble_eq_true rfl) (⟨by first | (simp only [rIsStopped, c_6, c_29, ij, cond_true, cond_false]; rfl) | (simp only [rIsStopped, c_6, c_29, cond_true, cond_false]; done), by first | (simp only [rIsStopped, c_6, c_29, ij, cond_true, cond_false]; done) | (simp only [rIsStopped, c_6, c_29, cond_true, cond_false]; done)⟩) dX6_isStopped_37
theorem c_X6_propose (S : Mem) (p x k w : Int32) (ng nm nc : Nat) (hg : S 17 0 4 = nI ng) (hng : ng ≤ 10) (hm : S 17 0 6 = nI nm) (hnm : nm ≤ 12) (hc : S 17 0 11 = nI nc) (hnc : nc ≤ 40) : CI l yX6_propose cX6_propose 5 (some .int) { frames := 3, cells := 0, slots := 0, locals := 64 } D ad CNT ca SR (SH ad ca S) [.ref (ad 17 0), .int (p), .int (x), .int (k), .int (w)] (PR ad ca (rPropose (uM S 17 0 0 (nI 0)) p x k w ng nm nc).1 (rPropose (uM S 17 0 0 (nI 0)) p x k w ng nm nc).2) := by
  refine CI.of _ RX6 (by decide +kernel) rfl (Nat.le_of_ble_eq_true rfl) ?_
  intro p9 e9 s9 m9 a9 b9 me9 c9 A9 hB hr hnm9
  refine g_aload_n hB 0 dX6_propose_0 rfl rfl ?_
  refine g_iconst hB (nI 0) dX6_propose_1 rfl ?_
  refine s_put (ci := 6) (T := TX6) (N := 26) hB in_X6 rfl tyX6 tyX6_ok nmX6 17 0 0 (by decide) (by decide) rfl rfl tw_fl_X6_74 rfl rfl rfl (Nat.le_of_ble_eq_true rfl) dX6_propose_2 ?_
  refine g_iload_n hB 1 dX6_propose_5 rfl rfl ?_
  refine g_callSI hB (c_X6_isPerson _ _) k_X6_121 yk_X6_isPerson ⟨Nat.le_of_ble_eq_true rfl, Nat.le_of_ble_eq_true rfl⟩ rfl (Nat.le_of_ble_eq_true rfl) ⟨Nat.le_of_ble_eq_true rfl, Nat.le_of_ble_eq_true rfl⟩ dX6_propose_6 ?_
  rintro _ _ ⟨rfl, rfl⟩
  refine b_if_eq hB (rgB p 8) 27 dX6_propose_9 (by decide) (fun c_9 => ?_) (fun c_9 => ?_)
  · refine g_aload_n hB 0 dX6_propose_27 rfl rfl ?_
    refine g_iconst hB (nI 1) dX6_propose_28 rfl ?_
    refine g_callVI hB (c_X6_fails _ _) k_X6_112 rfl yk_X6_fails ⟨Nat.le_of_ble_eq_true rfl, Nat.le_of_ble_eq_true rfl⟩ ⟨(by decide), _, _, _, rfl, rfl, rfl⟩ rfl (Nat.le_of_ble_eq_true rfl) ⟨Nat.le_of_ble_eq_true rfl, Nat.le_of_ble_eq_true rfl⟩ dX6_propose_29 ?_
    rintro _ _ ⟨rfl, rfl⟩
    exact g_iret hB hr rfl (Nat.le_of_ble_eq_true rfl) (Nat.le_of_ble_eq_true rfl) (⟨by first | (simp only [rPropose, fl, c_9, ij, decide_true, decide_false, cond_true, cond_false]; done) | (simp only [rPropose, fl, c_9, cond_true, cond_false]; done), by first | (simp only [rPropose, fl, c_9, ij, decide_true, decide_false, cond_true, cond_false]; done) | (simp only [rPropose, fl, c_9, cond_true, cond_false]; done) | (simp only [rPropose, fl, c_9, ij, decide_true, decide_false, cond_true, cond_false]; rfl)⟩) dX6_propose_32
  · obtain ⟨j, hj, rfl⟩ := rgB_t c_9
    have ij := ix_nI (show j < 2 ^ 31 by omega)
    refine g_aload_n hB 0 dX6_propose_12 rfl rfl ?_
    refine g_iload_n hB 2 dX6_propose_13 rfl rfl ?_
    refine g_callVI hB (c_X6_isPlace _ _ ng nm hg hng hm hnm) k_X6_151 rfl yk_X6_isPlace ⟨Nat.le_of_ble_eq_true rfl, Nat.le_of_ble_eq_true rfl⟩ ⟨(by decide), _, _, _, rfl, rfl, rfl⟩ rfl (Nat.le_of_ble_eq_true rfl) ⟨Nat.le_of_ble_eq_true rfl, Nat.le_of_ble_eq_true rfl⟩ dX6_propose_14 ?_
    rintro _ _ ⟨rfl, rfl⟩
    refine b_if_eq hB (plB x ng nm) 27 dX6_propose_17 (by decide) (fun c_17 => ?_) (fun c_17 => ?_)
    · refine g_aload_n hB 0 dX6_propose_27 rfl rfl ?_
      refine g_iconst hB (nI 1) dX6_propose_28 rfl ?_
      refine g_callVI hB (c_X6_fails _ _) k_X6_112 rfl yk_X6_fails ⟨Nat.le_of_ble_eq_true rfl, Nat.le_of_ble_eq_true rfl⟩ ⟨(by decide), _, _, _, rfl, rfl, rfl⟩ rfl (Nat.le_of_ble_eq_true rfl) ⟨Nat.le_of_ble_eq_true rfl, Nat.le_of_ble_eq_true rfl⟩ dX6_propose_29 ?_
      rintro _ _ ⟨rfl, rfl⟩
      exact g_iret hB hr rfl (Nat.le_of_ble_eq_true rfl) (Nat.le_of_ble_eq_true rfl) (⟨by first | (simp only [rPropose, fl, c_9, c_17, ij, decide_true, decide_false, cond_true, cond_false]; done) | (simp only [rPropose, fl, c_9, c_17, cond_true, cond_false]; done), by first | (simp only [rPropose, fl, c_9, c_17, ij, decide_true, decide_false, cond_true, cond_false]; done) | (simp only [rPropose, fl, c_9, c_17, cond_true, cond_false]; done) | (simp only [rPropose, fl, c_9, c_17, ij, decide_true, decide_false, cond_true, cond_false]; rfl)⟩) dX6_propose_32
    · refine g_iload_n hB 3 dX6_propose_20 rfl rfl ?_
      refine g_callSI hB (c_X6_isKey _ _) k_X6_154 yk_X6_isKey ⟨Nat.le_of_ble_eq_true rfl, Nat.le_of_ble_eq_true rfl⟩ rfl (Nat.le_of_ble_eq_true rfl) ⟨Nat.le_of_ble_eq_true rfl, Nat.le_of_ble_eq_true rfl⟩ dX6_propose_21 ?_
      rintro _ _ ⟨rfl, rfl⟩
      refine b_if_ne hB (rgB k 6) 33 dX6_propose_24 (by decide) (fun c_24 => ?_) (fun c_24 => ?_)
      · refine g_iload hB 4 dX6_propose_33 rfl ?_
        refine g_iconst hB (nI 0) dX6_propose_35 rfl ?_
        refine g_bipush hB (nI 101) dX6_propose_36 rfl ?_
        refine g_callSI hB (c_X6_in _ _ _ _) k_X6_77 yk_X6_in ⟨Nat.le_of_ble_eq_true rfl, Nat.le_of_ble_eq_true rfl⟩ rfl (Nat.le_of_ble_eq_true rfl) ⟨Nat.le_of_ble_eq_true rfl, Nat.le_of_ble_eq_true rfl⟩ dX6_propose_38 ?_
        rintro _ _ ⟨rfl, rfl⟩
        refine b_if_ne hB (inR w (nI 0) (nI 101)) 50 dX6_propose_41 (by decide) (fun c_41 => ?_) (fun c_41 => ?_)
        · refine g_aload_n hB 0 dX6_propose_50 rfl rfl ?_
          refine g_get (ci := 6) (T := TX6) (N := 26) hB in_X6 rfl 17 0 3 (by decide) (by decide) rfl tw_fl_X6_13 rfl dX6_propose_51 ?_
          refine g_iload_n hB 1 dX6_propose_54 rfl rfl ?_
          refine g_iald hB 18 1 j (n := 8) (by decide) rfl (by first | assumption | omega) (Nat.le_of_ble_eq_true rfl) dX6_propose_55 ?_
          refine g_if_gt hB 68 dX6_propose_56 (by decide) (fun c_56 => ?_) (fun c_56 => ?_)
          · refine g_aload_n hB 0 dX6_propose_68 rfl rfl ?_
            refine g_iconst hB (nI 3) dX6_propose_69 rfl ?_
            refine g_callVI hB (c_X6_fails _ _) k_X6_112 rfl yk_X6_fails ⟨Nat.le_of_ble_eq_true rfl, Nat.le_of_ble_eq_true rfl⟩ ⟨(by decide), _, _, _, rfl, rfl, rfl⟩ rfl (Nat.le_of_ble_eq_true rfl) ⟨Nat.le_of_ble_eq_true rfl, Nat.le_of_ble_eq_true rfl⟩ dX6_propose_70 ?_
            rintro _ _ ⟨rfl, rfl⟩
            exact g_iret hB hr rfl (Nat.le_of_ble_eq_true rfl) (Nat.le_of_ble_eq_true rfl) (⟨by first | (simp only [rPropose, fl, c_9, c_17, c_24, c_41, c_56, ij, decide_true, decide_false, cond_true, cond_false]; done) | (simp only [rPropose, fl, c_9, c_17, c_24, c_41, c_56, cond_true, cond_false]; done), by first | (simp only [rPropose, fl, c_9, c_17, c_24, c_41, c_56, ij, decide_true, decide_false, cond_true, cond_false]; done) | (simp only [rPropose, fl, c_9, c_17, c_24, c_41, c_56, cond_true, cond_false]; done) | (simp only [rPropose, fl, c_9, c_17, c_24, c_41, c_56, ij, decide_true, decide_false, cond_true, cond_false]; rfl)⟩) dX6_propose_73
          · refine g_aload_n hB 0 dX6_propose_59 rfl rfl ?_
            refine g_get (ci := 6) (T := TX6) (N := 26) hB in_X6 rfl 17 0 11 (by decide) (by decide) rfl tw_fl_X6_84 rfl dX6_propose_60 ?_
            refine g_top (nI nc) (hc) ?_
            refine g_bipush hB (nI 40) dX6_propose_63 rfl ?_
            refine n_icmp_ne hB nc 40 74 dX6_propose_65 (by decide) (by omega) (by omega) (fun c_65 => ?_) (fun c_65 => ?_)
            · have d_65 : decide (nc = 40) = false := decide_eq_false c_65
              have hlt : nc < 40 := by omega
              refine g_aload_n hB 0 dX6_propose_74 rfl rfl ?_
              refine g_get (ci := 6) (T := TX6) (N := 26) hB in_X6 rfl 17 0 13 (by decide) (by decide) rfl tw_fl_X6_35 rfl dX6_propose_75 ?_
              refine g_aload_n hB 0 dX6_propose_78 rfl rfl ?_
              refine g_get (ci := 6) (T := TX6) (N := 26) hB in_X6 rfl 17 0 11 (by decide) (by decide) rfl tw_fl_X6_84 rfl dX6_propose_79 ?_
              refine g_top (nI nc) (hc) ?_
              refine g_iload_n hB 1 dX6_propose_82 rfl rfl ?_
              refine s_iast hB 18 6 nc (n := 40) (by decide) (fun _ => rfl) (by first | assumption | omega) (Nat.le_of_ble_eq_true rfl) dX6_propose_83 ?_
              refine g_aload_n hB 0 dX6_propose_84 rfl rfl ?_
              refine g_get (ci := 6) (T := TX6) (N := 26) hB in_X6 rfl 17 0 14 (by decide) (by decide) rfl tw_fl_X6_38 rfl dX6_propose_85 ?_
              refine g_aload_n hB 0 dX6_propose_88 rfl rfl ?_
              refine g_get (ci := 6) (T := TX6) (N := 26) hB in_X6 rfl 17 0 11 (by decide) (by decide) rfl tw_fl_X6_84 rfl dX6_propose_89 ?_
              refine g_top (nI nc) (hc) ?_
              refine g_iload_n hB 2 dX6_propose_92 rfl rfl ?_
              refine s_iast hB 18 7 nc (n := 40) (by decide) (fun _ => rfl) (by first | assumption | omega) (Nat.le_of_ble_eq_true rfl) dX6_propose_93 ?_
              refine g_aload_n hB 0 dX6_propose_94 rfl rfl ?_
              refine g_get (ci := 6) (T := TX6) (N := 26) hB in_X6 rfl 17 0 15 (by decide) (by decide) rfl tw_fl_X6_41 rfl dX6_propose_95 ?_
              refine g_aload_n hB 0 dX6_propose_98 rfl rfl ?_
              refine g_get (ci := 6) (T := TX6) (N := 26) hB in_X6 rfl 17 0 11 (by decide) (by decide) rfl tw_fl_X6_84 rfl dX6_propose_99 ?_
              refine g_top (nI nc) (hc) ?_
              refine g_iload_n hB 3 dX6_propose_102 rfl rfl ?_
              refine s_iast hB 18 8 nc (n := 40) (by decide) (fun _ => rfl) (by first | assumption | omega) (Nat.le_of_ble_eq_true rfl) dX6_propose_103 ?_
              refine g_aload_n hB 0 dX6_propose_104 rfl rfl ?_
              refine g_get (ci := 6) (T := TX6) (N := 26) hB in_X6 rfl 17 0 16 (by decide) (by decide) rfl tw_fl_X6_44 rfl dX6_propose_105 ?_
              refine g_aload_n hB 0 dX6_propose_108 rfl rfl ?_
              refine g_get (ci := 6) (T := TX6) (N := 26) hB in_X6 rfl 17 0 11 (by decide) (by decide) rfl tw_fl_X6_84 rfl dX6_propose_109 ?_
              refine g_top (nI nc) (hc) ?_
              refine g_aload_n hB 0 dX6_propose_112 rfl rfl ?_
              refine g_get (ci := 6) (T := TX6) (N := 26) hB in_X6 rfl 17 0 1 (by decide) (by decide) rfl tw_fl_X6_109 rfl dX6_propose_113 ?_
              refine s_iast hB 18 9 nc (n := 40) (by decide) (fun _ => rfl) (by first | assumption | omega) (Nat.le_of_ble_eq_true rfl) dX6_propose_116 ?_
              refine g_aload_n hB 0 dX6_propose_117 rfl rfl ?_
              refine g_get (ci := 6) (T := TX6) (N := 26) hB in_X6 rfl 17 0 17 (by decide) (by decide) rfl tw_fl_X6_47 rfl dX6_propose_118 ?_
              refine g_aload_n hB 0 dX6_propose_121 rfl rfl ?_
              refine g_get (ci := 6) (T := TX6) (N := 26) hB in_X6 rfl 17 0 11 (by decide) (by decide) rfl tw_fl_X6_84 rfl dX6_propose_122 ?_
              refine g_top (nI nc) (hc) ?_
              refine g_iload hB 4 dX6_propose_125 rfl ?_
              refine s_iast hB 18 10 nc (n := 40) (by decide) (fun _ => rfl) (by first | assumption | omega) (Nat.le_of_ble_eq_true rfl) dX6_propose_127 ?_
              refine g_aload_n hB 0 dX6_propose_128 rfl rfl ?_
              refine g_get (ci := 6) (T := TX6) (N := 26) hB in_X6 rfl 17 0 19 (by decide) (by decide) rfl tw_fl_X6_53 rfl dX6_propose_129 ?_
              refine g_aload_n hB 0 dX6_propose_132 rfl rfl ?_
              refine g_get (ci := 6) (T := TX6) (N := 26) hB in_X6 rfl 17 0 11 (by decide) (by decide) rfl tw_fl_X6_84 rfl dX6_propose_133 ?_
              refine g_top (nI nc) (hc) ?_
              refine g_iconst hB (-1) dX6_propose_136 rfl ?_
              refine s_iast hB 18 12 nc (n := 40) (by decide) (fun _ => rfl) (by first | assumption | omega) (Nat.le_of_ble_eq_true rfl) dX6_propose_137 ?_
              refine g_aload_n hB 0 dX6_propose_138 rfl rfl ?_
              refine g_dup hB rfl dX6_propose_139 ?_
              refine g_get (ci := 6) (T := TX6) (N := 26) hB in_X6 rfl 17 0 11 (by decide) (by decide) rfl tw_fl_X6_84 rfl dX6_propose_140 ?_
              refine g_top (nI nc) (hc) ?_
              refine g_iconst hB (nI 1) dX6_propose_143 rfl ?_
              refine g_iadd hB dX6_propose_144 ?_
              refine g_top (nI (nc + 1)) (nI_add _ _) ?_
              refine s_put (ci := 6) (T := TX6) (N := 26) hB in_X6 rfl tyX6 tyX6_ok nmX6 17 0 11 (by decide) (by decide) rfl rfl tw_fl_X6_84 rfl rfl rfl (Nat.le_of_ble_eq_true rfl) dX6_propose_145 ?_
              refine g_aload_n hB 0 dX6_propose_148 rfl rfl ?_
              refine g_get (ci := 6) (T := TX6) (N := 26) hB in_X6 rfl 17 0 11 (by decide) (by decide) rfl tw_fl_X6_84 rfl dX6_propose_149 ?_
              refine g_top ((nI (nc + 1))) rfl ?_
              refine g_iconst hB (nI 1) dX6_propose_152 rfl ?_
              refine g_isub hB dX6_propose_153 ?_
              refine g_top (nI (nc)) (pk_sub (by omega)) ?_
              exact g_iret hB hr rfl (Nat.le_of_ble_eq_true rfl) (Nat.le_of_ble_eq_true rfl) (⟨by first | (simp only [rPropose, fl, c_9, c_17, c_24, c_41, c_56, d_65, ij, decide_true, decide_false, cond_true, cond_false]; done) | (simp only [rPropose, fl, c_9, c_17, c_24, c_41, c_56, d_65, cond_true, cond_false]; done), by first | (simp only [rPropose, fl, c_9, c_17, c_24, c_41, c_56, d_65, ij, decide_true, decide_false, cond_true, cond_false]; done) | (simp only [rPropose, fl, c_9, c_17, c_24, c_41, c_56, d_65, cond_true, cond_false]; done) | (simp only [rPropose, fl, c_9, c_17, c_24, c_41, c_56, d_65, ij, decide_true, decide_false, cond_true, cond_false]; rfl)⟩) dX6_propose_154
            · have d_65 : decide (nc = 40) = true := decide_eq_true c_65
              refine g_aload_n hB 0 dX6_propose_68 rfl rfl ?_
              refine g_iconst hB (nI 3) dX6_propose_69 rfl ?_
              refine g_callVI hB (c_X6_fails _ _) k_X6_112 rfl yk_X6_fails ⟨Nat.le_of_ble_eq_true rfl, Nat.le_of_ble_eq_true rfl⟩ ⟨(by decide), _, _, _, rfl, rfl, rfl⟩ rfl (Nat.le_of_ble_eq_true rfl) ⟨Nat.le_of_ble_eq_true rfl, Nat.le_of_ble_eq_true rfl⟩ dX6_propose_70 ?_
              rintro _ _ ⟨rfl, rfl⟩
              exact g_iret hB hr rfl (Nat.le_of_ble_eq_true rfl) (Nat.le_of_ble_eq_true rfl) (⟨by first | (simp only [rPropose, fl, c_9, c_17, c_24, c_41, c_56, d_65, ij, decide_true, decide_false, cond_true, cond_false]; done) | (simp only [rPropose, fl, c_9, c_17, c_24, c_41, c_56, d_65, cond_true, cond_false]; done), by first | (simp only [rPropose, fl, c_9, c_17, c_24, c_41, c_56, d_65, ij, decide_true, decide_false, cond_true, cond_false]; done) | (simp only [rPropose, fl, c_9, c_17, c_24, c_41, c_56, d_65, cond_true, cond_false]; done) | (simp only [rPropose, fl, c_9, c_17, c_24, c_41, c_56, d_65, ij, decide_true, decide_false, cond_true, cond_false]; rfl)⟩) dX6_propose_73
        · refine g_aload_n hB 0 dX6_propose_44 rfl rfl ?_
          refine g_iconst hB (nI 2) dX6_propose_45 rfl ?_
          refine g_callVI hB (c_X6_fails _ _) k_X6_112 rfl yk_X6_fails ⟨Nat.le_of_ble_eq_true rfl, Nat.le_of_ble_eq_true rfl⟩ ⟨(by decide), _, _, _, rfl, rfl, rfl⟩ rfl (Nat.le_of_ble_eq_true rfl) ⟨Nat.le_of_ble_eq_true rfl, Nat.le_of_ble_eq_true rfl⟩ dX6_propose_46 ?_
          rintro _ _ ⟨rfl, rfl⟩
          exact g_iret hB hr rfl (Nat.le_of_ble_eq_true rfl) (Nat.le_of_ble_eq_true rfl) (⟨by first | (simp only [rPropose, fl, c_9, c_17, c_24, c_41, ij, decide_true, decide_false, cond_true, cond_false]; done) | (simp only [rPropose, fl, c_9, c_17, c_24, c_41, cond_true, cond_false]; done), by first | (simp only [rPropose, fl, c_9, c_17, c_24, c_41, ij, decide_true, decide_false, cond_true, cond_false]; done) | (simp only [rPropose, fl, c_9, c_17, c_24, c_41, cond_true, cond_false]; done) | (simp only [rPropose, fl, c_9, c_17, c_24, c_41, ij, decide_true, decide_false, cond_true, cond_false]; rfl)⟩) dX6_propose_49
      · refine g_aload_n hB 0 dX6_propose_27 rfl rfl ?_
        refine g_iconst hB (nI 1) dX6_propose_28 rfl ?_
        refine g_callVI hB (c_X6_fails _ _) k_X6_112 rfl yk_X6_fails ⟨Nat.le_of_ble_eq_true rfl, Nat.le_of_ble_eq_true rfl⟩ ⟨(by decide), _, _, _, rfl, rfl, rfl⟩ rfl (Nat.le_of_ble_eq_true rfl) ⟨Nat.le_of_ble_eq_true rfl, Nat.le_of_ble_eq_true rfl⟩ dX6_propose_29 ?_
        rintro _ _ ⟨rfl, rfl⟩
        exact g_iret hB hr rfl (Nat.le_of_ble_eq_true rfl) (Nat.le_of_ble_eq_true rfl) (⟨by first | (simp only [rPropose, fl, c_9, c_17, c_24, ij, decide_true, decide_false, cond_true, cond_false]; done) | (simp only [rPropose, fl, c_9, c_17, c_24, cond_true, cond_false]; done), by first | (simp only [rPropose, fl, c_9, c_17, c_24, ij, decide_true, decide_false, cond_true, cond_false]; done) | (simp only [rPropose, fl, c_9, c_17, c_24, cond_true, cond_false]; done) | (simp only [rPropose, fl, c_9, c_17, c_24, ij, decide_true, decide_false, cond_true, cond_false]; rfl)⟩) dX6_propose_32
theorem c_X6_withdraw (S : Mem) (x : Int32) (nc : Nat) (hc : S 17 0 11 = nI nc) (hnc : nc ≤ 40) : CV l yX6_withdraw cX6_withdraw 2 none { frames := 2, cells := 0, slots := 0, locals := 43 } D ad CNT ca SR (SH ad ca S) [.ref (ad 17 0), .int (x)] (PM ad ca (rWithdraw S x nc)) := by
  refine CV.of _ RX6 (by decide +kernel) rfl (Nat.le_of_ble_eq_true rfl) ?_
  intro p9 e9 s9 m9 a9 b9 me9 c9 A9 hB hr hnm9
  refine g_aload_n hB 0 dX6_withdraw_0 rfl rfl ?_
  refine g_aload_n hB 0 dX6_withdraw_1 rfl rfl ?_
  refine g_iload_n hB 1 dX6_withdraw_2 rfl rfl ?_
  refine g_callVI hB (c_X6_isChange _ _ nc hc hnc) k_X6_157 rfl yk_X6_isChange ⟨Nat.le_of_ble_eq_true rfl, Nat.le_of_ble_eq_true rfl⟩ ⟨(by decide), _, _, _, rfl, rfl, rfl⟩ rfl (Nat.le_of_ble_eq_true rfl) ⟨Nat.le_of_ble_eq_true rfl, Nat.le_of_ble_eq_true rfl⟩ dX6_withdraw_3 ?_
  rintro _ _ ⟨rfl, rfl⟩
  refine b_if_ne hB (rgB x nc) 13 dX6_withdraw_6 (by decide) (fun c_6 => ?_) (fun c_6 => ?_)
  · obtain ⟨j, hj, rfl⟩ := rgB_t c_6
    have ij := ix_nI (show j < 2 ^ 31 by omega)
    refine g_aload_n hB 0 dX6_withdraw_13 rfl rfl ?_
    refine g_get (ci := 6) (T := TX6) (N := 26) hB in_X6 rfl 17 0 18 (by decide) (by decide) rfl tw_fl_X6_50 rfl dX6_withdraw_14 ?_
    refine g_iload_n hB 1 dX6_withdraw_17 rfl rfl ?_
    refine g_iald hB 18 11 j (n := 40) (by decide) rfl (by first | assumption | omega) (Nat.le_of_ble_eq_true rfl) dX6_withdraw_18 ?_
    refine g_if_eq hB 26 dX6_withdraw_19 (by decide) (fun c_19 => ?_) (fun c_19 => ?_)
    · refine g_iconst hB (nI 0) dX6_withdraw_26 rfl ?_
      refine s_put (ci := 6) (T := TX6) (N := 26) hB in_X6 rfl tyX6 tyX6_ok nmX6 17 0 0 (by decide) (by decide) rfl rfl tw_fl_X6_74 rfl rfl rfl (Nat.le_of_ble_eq_true rfl) dX6_withdraw_27 ?_
      refine g_aload_n hB 0 dX6_withdraw_30 rfl rfl ?_
      refine g_get (ci := 6) (T := TX6) (N := 26) hB in_X6 rfl 17 0 0 (by decide) (by decide) rfl tw_fl_X6_74 rfl dX6_withdraw_31 ?_
      refine g_top ((nI 0)) rfl ?_
      refine g_if_ne hB 44 dX6_withdraw_34 (by decide) (fun z => absurd rfl z) (fun _ => ?_)
      refine g_aload_n hB 0 dX6_withdraw_37 rfl rfl ?_
      refine g_get (ci := 6) (T := TX6) (N := 26) hB in_X6 rfl 17 0 18 (by decide) (by decide) rfl tw_fl_X6_50 rfl dX6_withdraw_38 ?_
      refine g_iload_n hB 1 dX6_withdraw_41 rfl rfl ?_
      refine g_iconst hB (nI 3) dX6_withdraw_42 rfl ?_
      refine s_iast hB 18 11 j (n := 40) (by decide) (fun _ => rfl) (by first | assumption | omega) (Nat.le_of_ble_eq_true rfl) dX6_withdraw_43 ?_
      exact g_vret hB hr (Nat.le_of_ble_eq_true rfl) (Nat.le_of_ble_eq_true rfl) (by first | (show _ = _; simp only [rWithdraw, c_6, c_19, ij, decide_true, decide_false, cond_true, cond_false]) | (show _ = _; simp only [rWithdraw, c_6, c_19, cond_true, cond_false])) dX6_withdraw_44
    · refine g_iconst hB (nI 2) dX6_withdraw_22 rfl ?_
      refine g_goto hB 27 dX6_withdraw_23 (by decide) ?_
      refine s_put (ci := 6) (T := TX6) (N := 26) hB in_X6 rfl tyX6 tyX6_ok nmX6 17 0 0 (by decide) (by decide) rfl rfl tw_fl_X6_74 rfl rfl rfl (Nat.le_of_ble_eq_true rfl) dX6_withdraw_27 ?_
      refine g_aload_n hB 0 dX6_withdraw_30 rfl rfl ?_
      refine g_get (ci := 6) (T := TX6) (N := 26) hB in_X6 rfl 17 0 0 (by decide) (by decide) rfl tw_fl_X6_74 rfl dX6_withdraw_31 ?_
      refine g_top ((nI 2)) rfl ?_
      refine g_if_ne hB 44 dX6_withdraw_34 (by decide) (fun _ => ?_) (fun z => absurd z (by decide))
      exact g_vret hB hr (Nat.le_of_ble_eq_true rfl) (Nat.le_of_ble_eq_true rfl) (by first | (show _ = _; simp only [rWithdraw, c_6, c_19, ij, decide_true, decide_false, cond_true, cond_false]) | (show _ = _; simp only [rWithdraw, c_6, c_19, cond_true, cond_false])) dX6_withdraw_44
  · refine g_iconst hB (nI 1) dX6_withdraw_9 rfl ?_
    refine g_goto hB 27 dX6_withdraw_10 (by decide) ?_
    refine s_put (ci := 6) (T := TX6) (N := 26) hB in_X6 rfl tyX6 tyX6_ok nmX6 17 0 0 (by decide) (by decide) rfl rfl tw_fl_X6_74 rfl rfl rfl (Nat.le_of_ble_eq_true rfl) dX6_withdraw_27 ?_
    refine g_aload_n hB 0 dX6_withdraw_30 rfl rfl ?_
    refine g_get (ci := 6) (T := TX6) (N := 26) hB in_X6 rfl 17 0 0 (by decide) (by decide) rfl tw_fl_X6_74 rfl dX6_withdraw_31 ?_
    refine g_top ((nI 1)) rfl ?_
    refine g_if_ne hB 44 dX6_withdraw_34 (by decide) (fun _ => ?_) (fun z => absurd z (by decide))
    exact g_vret hB hr (Nat.le_of_ble_eq_true rfl) (Nat.le_of_ble_eq_true rfl) (by first | (show _ = _; simp only [rWithdraw, c_6, ij, decide_true, decide_false, cond_true, cond_false]) | (show _ = _; simp only [rWithdraw, c_6, cond_true, cond_false])) dX6_withdraw_44

theorem c_X6_state (S : Mem) (x : Int32) (nc : Nat) (hc : S 17 0 11 = nI nc) (hnc : nc ≤ 40) : CI l yX6_state cX6_state 2 (some .int) { frames := 2, cells := 0, slots := 0, locals := 43 } D ad CNT ca SR (SH ad ca S) [.ref (ad 17 0), .int (x)] (PR ad ca (rAt (uM S 17 0 0 (nI 0)) 11 x nc).1 (rAt (uM S 17 0 0 (nI 0)) 11 x nc).2) := by
  refine CI.of _ RX6 (by decide +kernel) rfl (Nat.le_of_ble_eq_true rfl) ?_
  intro p9 e9 s9 m9 a9 b9 me9 c9 A9 hB hr hnm9
  refine g_aload_n hB 0 dX6_state_0 rfl rfl ?_
  refine g_iconst hB (nI 0) dX6_state_1 rfl ?_
  refine s_put (ci := 6) (T := TX6) (N := 26) hB in_X6 rfl tyX6 tyX6_ok nmX6 17 0 0 (by decide) (by decide) rfl rfl tw_fl_X6_74 rfl rfl rfl (Nat.le_of_ble_eq_true rfl) dX6_state_2 ?_
  refine g_aload_n hB 0 dX6_state_5 rfl rfl ?_
  refine g_iload_n hB 1 dX6_state_6 rfl rfl ?_
  refine g_callVI hB (c_X6_isChange _ _ nc hc hnc) k_X6_157 rfl yk_X6_isChange ⟨Nat.le_of_ble_eq_true rfl, Nat.le_of_ble_eq_true rfl⟩ ⟨(by decide), _, _, _, rfl, rfl, rfl⟩ rfl (Nat.le_of_ble_eq_true rfl) ⟨Nat.le_of_ble_eq_true rfl, Nat.le_of_ble_eq_true rfl⟩ dX6_state_7 ?_
  rintro _ _ ⟨rfl, rfl⟩
  refine b_if_eq hB (rgB x nc) 22 dX6_state_10 (by decide) (fun c_10 => ?_) (fun c_10 => ?_)
  · refine g_aload_n hB 0 dX6_state_22 rfl rfl ?_
    refine g_iconst hB (nI 1) dX6_state_23 rfl ?_
    refine g_callVI hB (c_X6_fails _ _) k_X6_112 rfl yk_X6_fails ⟨Nat.le_of_ble_eq_true rfl, Nat.le_of_ble_eq_true rfl⟩ ⟨(by decide), _, _, _, rfl, rfl, rfl⟩ rfl (Nat.le_of_ble_eq_true rfl) ⟨Nat.le_of_ble_eq_true rfl, Nat.le_of_ble_eq_true rfl⟩ dX6_state_24 ?_
    rintro _ _ ⟨rfl, rfl⟩
    exact g_iret hB hr rfl (Nat.le_of_ble_eq_true rfl) (Nat.le_of_ble_eq_true rfl) (⟨by first | (simp only [rAt, fl, c_10, ij, cond_true, cond_false]; done) | (simp only [rAt, fl, c_10, cond_true, cond_false]; done), by first | (simp only [rAt, fl, c_10, ij, cond_true, cond_false]; done) | (simp only [rAt, fl, c_10, cond_true, cond_false]; done)⟩) dX6_state_27
  · obtain ⟨j, hj, rfl⟩ := rgB_t c_10
    have ij := ix_nI (show j < 2 ^ 31 by omega)
    refine g_aload_n hB 0 dX6_state_13 rfl rfl ?_
    refine g_get (ci := 6) (T := TX6) (N := 26) hB in_X6 rfl 17 0 18 (by decide) (by decide) rfl tw_fl_X6_50 rfl dX6_state_14 ?_
    refine g_iload_n hB 1 dX6_state_17 rfl rfl ?_
    refine g_iald hB 18 11 j (n := 40) (by decide) rfl (by first | assumption | omega) (Nat.le_of_ble_eq_true rfl) dX6_state_18 ?_
    refine g_goto hB 27 dX6_state_19 (by decide) ?_
    exact g_iret hB hr rfl (Nat.le_of_ble_eq_true rfl) (Nat.le_of_ble_eq_true rfl) (⟨by first | (simp only [rAt, fl, c_10, ij, cond_true, cond_false]; done) | (simp only [rAt, fl, c_10, cond_true, cond_false]; done), by first | (simp only [rAt, fl, c_10, ij, cond_true, cond_false]; done) | (simp only [rAt, fl, c_10, cond_true, cond_false]; done)⟩) dX6_state_27
theorem c_X6_rank (S : Mem) (x : Int32) (nc : Nat) (hc : S 17 0 11 = nI nc) (hnc : nc ≤ 40) : CI l yX6_rank cX6_rank 2 (some .int) { frames := 2, cells := 0, slots := 0, locals := 43 } D ad CNT ca SR (SH ad ca S) [.ref (ad 17 0), .int (x)] (PR ad ca (rAt (uM S 17 0 0 (nI 0)) 12 x nc).1 (rAt (uM S 17 0 0 (nI 0)) 12 x nc).2) := by
  refine CI.of _ RX6 (by decide +kernel) rfl (Nat.le_of_ble_eq_true rfl) ?_
  intro p9 e9 s9 m9 a9 b9 me9 c9 A9 hB hr hnm9
  refine g_aload_n hB 0 dX6_rank_0 rfl rfl ?_
  refine g_iconst hB (nI 0) dX6_rank_1 rfl ?_
  refine s_put (ci := 6) (T := TX6) (N := 26) hB in_X6 rfl tyX6 tyX6_ok nmX6 17 0 0 (by decide) (by decide) rfl rfl tw_fl_X6_74 rfl rfl rfl (Nat.le_of_ble_eq_true rfl) dX6_rank_2 ?_
  refine g_aload_n hB 0 dX6_rank_5 rfl rfl ?_
  refine g_iload_n hB 1 dX6_rank_6 rfl rfl ?_
  refine g_callVI hB (c_X6_isChange _ _ nc hc hnc) k_X6_157 rfl yk_X6_isChange ⟨Nat.le_of_ble_eq_true rfl, Nat.le_of_ble_eq_true rfl⟩ ⟨(by decide), _, _, _, rfl, rfl, rfl⟩ rfl (Nat.le_of_ble_eq_true rfl) ⟨Nat.le_of_ble_eq_true rfl, Nat.le_of_ble_eq_true rfl⟩ dX6_rank_7 ?_
  rintro _ _ ⟨rfl, rfl⟩
  refine b_if_eq hB (rgB x nc) 22 dX6_rank_10 (by decide) (fun c_10 => ?_) (fun c_10 => ?_)
  · refine g_aload_n hB 0 dX6_rank_22 rfl rfl ?_
    refine g_iconst hB (nI 1) dX6_rank_23 rfl ?_
    refine g_callVI hB (c_X6_fails _ _) k_X6_112 rfl yk_X6_fails ⟨Nat.le_of_ble_eq_true rfl, Nat.le_of_ble_eq_true rfl⟩ ⟨(by decide), _, _, _, rfl, rfl, rfl⟩ rfl (Nat.le_of_ble_eq_true rfl) ⟨Nat.le_of_ble_eq_true rfl, Nat.le_of_ble_eq_true rfl⟩ dX6_rank_24 ?_
    rintro _ _ ⟨rfl, rfl⟩
    exact g_iret hB hr rfl (Nat.le_of_ble_eq_true rfl) (Nat.le_of_ble_eq_true rfl) (⟨by first | (simp only [rAt, fl, c_10, ij, cond_true, cond_false]; done) | (simp only [rAt, fl, c_10, cond_true, cond_false]; done), by first | (simp only [rAt, fl, c_10, ij, cond_true, cond_false]; done) | (simp only [rAt, fl, c_10, cond_true, cond_false]; done)⟩) dX6_rank_27
  · obtain ⟨j, hj, rfl⟩ := rgB_t c_10
    have ij := ix_nI (show j < 2 ^ 31 by omega)
    refine g_aload_n hB 0 dX6_rank_13 rfl rfl ?_
    refine g_get (ci := 6) (T := TX6) (N := 26) hB in_X6 rfl 17 0 19 (by decide) (by decide) rfl tw_fl_X6_53 rfl dX6_rank_14 ?_
    refine g_iload_n hB 1 dX6_rank_17 rfl rfl ?_
    refine g_iald hB 18 12 j (n := 40) (by decide) rfl (by first | assumption | omega) (Nat.le_of_ble_eq_true rfl) dX6_rank_18 ?_
    refine g_goto hB 27 dX6_rank_19 (by decide) ?_
    exact g_iret hB hr rfl (Nat.le_of_ble_eq_true rfl) (Nat.le_of_ble_eq_true rfl) (⟨by first | (simp only [rAt, fl, c_10, ij, cond_true, cond_false]; done) | (simp only [rAt, fl, c_10, cond_true, cond_false]; done), by first | (simp only [rAt, fl, c_10, ij, cond_true, cond_false]; done) | (simp only [rAt, fl, c_10, cond_true, cond_false]; done)⟩) dX6_rank_27
theorem c_X6_approvals (S : Mem) (x : Int32) (nc : Nat) (hc : S 17 0 11 = nI nc) (hnc : nc ≤ 40) : CI l yX6_approvals cX6_approvals 2 (some .int) { frames := 2, cells := 0, slots := 0, locals := 43 } D ad CNT ca SR (SH ad ca S) [.ref (ad 17 0), .int (x)] (PR ad ca (rApprovals (uM S 17 0 0 (nI 0)) x nc).1 (rApprovals (uM S 17 0 0 (nI 0)) x nc).2) := by
  refine CI.of _ RX6 (by decide +kernel) rfl (Nat.le_of_ble_eq_true rfl) ?_
  intro p9 e9 s9 m9 a9 b9 me9 c9 A9 hB hr hnm9
  refine g_aload_n hB 0 dX6_approvals_0 rfl rfl ?_
  refine g_iconst hB (nI 0) dX6_approvals_1 rfl ?_
  refine s_put (ci := 6) (T := TX6) (N := 26) hB in_X6 rfl tyX6 tyX6_ok nmX6 17 0 0 (by decide) (by decide) rfl rfl tw_fl_X6_74 rfl rfl rfl (Nat.le_of_ble_eq_true rfl) dX6_approvals_2 ?_
  refine g_aload_n hB 0 dX6_approvals_5 rfl rfl ?_
  refine g_iload_n hB 1 dX6_approvals_6 rfl rfl ?_
  refine g_callVI hB (c_X6_isChange _ _ nc hc hnc) k_X6_157 rfl yk_X6_isChange ⟨Nat.le_of_ble_eq_true rfl, Nat.le_of_ble_eq_true rfl⟩ ⟨(by decide), _, _, _, rfl, rfl, rfl⟩ rfl (Nat.le_of_ble_eq_true rfl) ⟨Nat.le_of_ble_eq_true rfl, Nat.le_of_ble_eq_true rfl⟩ dX6_approvals_7 ?_
  rintro _ _ ⟨rfl, rfl⟩
  refine b_if_eq hB (rgB x nc) 21 dX6_approvals_10 (by decide) (fun c_10 => ?_) (fun c_10 => ?_)
  · refine g_aload_n hB 0 dX6_approvals_21 rfl rfl ?_
    refine g_iconst hB (nI 1) dX6_approvals_22 rfl ?_
    refine g_callVI hB (c_X6_fails _ _) k_X6_112 rfl yk_X6_fails ⟨Nat.le_of_ble_eq_true rfl, Nat.le_of_ble_eq_true rfl⟩ ⟨(by decide), _, _, _, rfl, rfl, rfl⟩ rfl (Nat.le_of_ble_eq_true rfl) ⟨Nat.le_of_ble_eq_true rfl, Nat.le_of_ble_eq_true rfl⟩ dX6_approvals_23 ?_
    rintro _ _ ⟨rfl, rfl⟩
    exact g_iret hB hr rfl (Nat.le_of_ble_eq_true rfl) (Nat.le_of_ble_eq_true rfl) (⟨by first | (simp only [rApprovals, fl, c_10, ij, cond_true, cond_false]; done) | (simp only [rApprovals, fl, c_10, cond_true, cond_false]; done), by first | (simp only [rApprovals, fl, c_10, ij, cond_true, cond_false]; done) | (simp only [rApprovals, fl, c_10, cond_true, cond_false]; done)⟩) dX6_approvals_26
  · obtain ⟨j, hj, rfl⟩ := rgB_t c_10
    have ij := ix_nI (show j < 2 ^ 31 by omega)
    refine g_aload_n hB 0 dX6_approvals_13 rfl rfl ?_
    refine g_iload_n hB 1 dX6_approvals_14 rfl rfl ?_
    refine g_callVI hB (c_X6_good _ j (by omega)) k_X6_115 rfl yk_X6_good ⟨Nat.le_of_ble_eq_true rfl, Nat.le_of_ble_eq_true rfl⟩ ⟨(by decide), _, _, _, rfl, rfl, rfl⟩ rfl (Nat.le_of_ble_eq_true rfl) ⟨Nat.le_of_ble_eq_true rfl, Nat.le_of_ble_eq_true rfl⟩ dX6_approvals_15 ?_
    rintro _ _ ⟨rfl, rfl⟩
    refine g_goto hB 26 dX6_approvals_18 (by decide) ?_
    exact g_iret hB hr rfl (Nat.le_of_ble_eq_true rfl) (Nat.le_of_ble_eq_true rfl) (⟨by first | (simp only [rApprovals, fl, c_10, ij, cond_true, cond_false]; done) | (simp only [rApprovals, fl, c_10, cond_true, cond_false]; done), by first | (simp only [rApprovals, fl, c_10, ij, cond_true, cond_false]; done) | (simp only [rApprovals, fl, c_10, cond_true, cond_false]; done)⟩) dX6_approvals_26
end M4
