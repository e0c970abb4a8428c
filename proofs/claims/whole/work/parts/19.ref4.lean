/-! the reference: its calls -/
section M4
variable {l : Launch} {D : va_G} {ad : Nat → Nat → Nat} {ca : Nat → ClassId} {SR : List (String × Nat × String)}

theorem c_X6_setDuty (S : Mem) (a b : Int32) : CI l yX6_setDuty cX6_setDuty 4 (some .int) { frames := 1, cells := 0, slots := 0, locals := 22 } D ad CNT ca SR (SH ad ca S) [.ref (ad 17 0), .int (a), .int (b)] (PR ad ca (rSetDuty (uM S 17 0 0 (nI 0)) a b).1 (rSetDuty (uM S 17 0 0 (nI 0)) a b).2) := by
  refine CI.of _ RX6 (by decide +kernel) rfl (Nat.le_of_ble_eq_true rfl) ?_
  intro p9 e9 s9 m9 a9 b9 me9 c9 A9 hB hr hnm9
  refine g_aload_n hB 0 dX6_setDuty_0 rfl rfl ?_
  refine g_iconst hB (nI 0) dX6_setDuty_1 rfl ?_
  refine s_put (ci := 6) (T := TX6) (N := 26) hB in_X6 rfl tyX6 tyX6_ok nmX6 17 0 0 (by decide) (by decide) rfl rfl tw_fl_X6_74 rfl rfl rfl (Nat.le_of_ble_eq_true rfl) dX6_setDuty_2 ?_
  refine g_iload_n hB 1 dX6_setDuty_5 rfl rfl ?_
  refine g_iconst hB (nI 0) dX6_setDuty_6 rfl ?_
  refine g_iconst hB (nI 3) dX6_setDuty_7 rfl ?_
  refine g_callSI hB (c_X6_in _ _ _ _) k_X6_77 yk_X6_in ⟨Nat.le_of_ble_eq_true rfl, Nat.le_of_ble_eq_true rfl⟩ rfl (Nat.le_of_ble_eq_true rfl) ⟨Nat.le_of_ble_eq_true rfl, Nat.le_of_ble_eq_true rfl⟩ dX6_setDuty_8 ?_
  rintro _ _ ⟨rfl, rfl⟩
  refine b_if_eq hB (inR a (nI 0) (nI 3)) 25 dX6_setDuty_11 (by decide) (fun c_11 => ?_) (fun c_11 => ?_)
  · refine g_aload_n hB 0 dX6_setDuty_25 rfl rfl ?_
    refine g_iconst hB (nI 1) dX6_setDuty_26 rfl ?_
    refine g_callVI hB (c_X6_fails _ _) k_X6_112 rfl yk_X6_fails ⟨Nat.le_of_ble_eq_true rfl, Nat.le_of_ble_eq_true rfl⟩ ⟨(by decide), _, _, _, rfl, rfl, rfl⟩ rfl (Nat.le_of_ble_eq_true rfl) ⟨Nat.le_of_ble_eq_true rfl, Nat.le_of_ble_eq_true rfl⟩ dX6_setDuty_27 ?_
    rintro _ _ ⟨rfl, rfl⟩
    exact g_iret hB hr rfl (Nat.le_of_ble_eq_true rfl) (Nat.le_of_ble_eq_true rfl) (⟨by simp only [rSetDuty, fl, c_11, decide_true, decide_false, not_true_eq_false, not_false_eq_true, Bool.or_true, Bool.true_or, Bool.or_false, Bool.false_or, cond_true, cond_false], by simp only [rSetDuty, fl, c_11, decide_true, decide_false, not_true_eq_false, not_false_eq_true, Bool.or_true, Bool.true_or, Bool.or_false, Bool.false_or, cond_true, cond_false]⟩) dX6_setDuty_30
  · refine g_iload_n hB 2 dX6_setDuty_14 rfl rfl ?_
    refine g_iconst hB (nI 0) dX6_setDuty_15 rfl ?_
    refine g_sipush hB (nI 255) dX6_setDuty_16 rfl ?_
    refine g_callSI hB (c_X6_in _ _ _ _) k_X6_77 yk_X6_in ⟨Nat.le_of_ble_eq_true rfl, Nat.le_of_ble_eq_true rfl⟩ rfl (Nat.le_of_ble_eq_true rfl) ⟨Nat.le_of_ble_eq_true rfl, Nat.le_of_ble_eq_true rfl⟩ dX6_setDuty_19 ?_
    rintro _ _ ⟨rfl, rfl⟩
    refine b_if_ne hB (inR b (nI 0) (nI 255)) 31 dX6_setDuty_22 (by decide) (fun c_22 => ?_) (fun c_22 => ?_)
    · obtain ⟨j, hj, rfl⟩ := rgB_t ((inR_rg 3 (by omega)).symm.trans c_11)
      have ij := ix_nI (show j < 2 ^ 31 by omega)
      refine g_aload_n hB 0 dX6_setDuty_31 rfl rfl ?_
      refine g_get (ci := 6) (T := TX6) (N := 26) hB in_X6 rfl 17 0 2 (by decide) (by decide) rfl tw_fl_X6_7 rfl dX6_setDuty_32 ?_
      refine g_iload_n hB 1 dX6_setDuty_35 rfl rfl ?_
      refine g_iald hB 18 0 j (n := 4) (by decide) rfl (by first | assumption | omega) (Nat.le_of_ble_eq_true rfl) dX6_setDuty_36 ?_
      refine g_istore_n hB 3 dX6_setDuty_37 rfl (by decide) ?_
      refine g_aload_n hB 0 dX6_setDuty_38 rfl rfl ?_
      refine g_get (ci := 6) (T := TX6) (N := 26) hB in_X6 rfl 17 0 2 (by decide) (by decide) rfl tw_fl_X6_7 rfl dX6_setDuty_39 ?_
      refine g_iload_n hB 1 dX6_setDuty_42 rfl rfl ?_
      refine g_iload_n hB 2 dX6_setDuty_43 rfl rfl ?_
      refine s_iast hB 18 0 j (n := 4) (by decide) (fun _ => rfl) (by first | assumption | omega) (Nat.le_of_ble_eq_true rfl) dX6_setDuty_44 ?_
      refine g_iload_n hB 3 dX6_setDuty_45 rfl rfl ?_
      exact g_iret hB hr rfl (Nat.le_of_ble_eq_true rfl) (Nat.le_of_ble_eq_true rfl) (⟨by simp only [rSetDuty, fl, c_11, c_22, ij, decide_true, decide_false, not_true_eq_false, not_false_eq_true, Bool.or_true, Bool.true_or, Bool.or_false, Bool.false_or, cond_true, cond_false], by simp only [rSetDuty, fl, c_11, c_22, ij, decide_true, decide_false, not_true_eq_false, not_false_eq_true, Bool.or_true, Bool.true_or, Bool.or_false, Bool.false_or, cond_true, cond_false]⟩) dX6_setDuty_46
    · refine g_aload_n hB 0 dX6_setDuty_25 rfl rfl ?_
      refine g_iconst hB (nI 1) dX6_setDuty_26 rfl ?_
      refine g_callVI hB (c_X6_fails _ _) k_X6_112 rfl yk_X6_fails ⟨Nat.le_of_ble_eq_true rfl, Nat.le_of_ble_eq_true rfl⟩ ⟨(by decide), _, _, _, rfl, rfl, rfl⟩ rfl (Nat.le_of_ble_eq_true rfl) ⟨Nat.le_of_ble_eq_true rfl, Nat.le_of_ble_eq_true rfl⟩ dX6_setDuty_27 ?_
      rintro _ _ ⟨rfl, rfl⟩
      exact g_iret hB hr rfl (Nat.le_of_ble_eq_true rfl) (Nat.le_of_ble_eq_true rfl) (⟨by simp only [rSetDuty, fl, c_11, c_22, decide_true, decide_false, not_true_eq_false, not_false_eq_true, Bool.or_true, Bool.true_or, Bool.or_false, Bool.false_or, cond_true, cond_false], by simp only [rSetDuty, fl, c_11, c_22, decide_true, decide_false, not_true_eq_false, not_false_eq_true, Bool.or_true, Bool.true_or, Bool.or_false, Bool.false_or, cond_true, cond_false]⟩) dX6_setDuty_30
theorem c_X6_comeBack (S : Mem) (x : Int32) : CV l yX6_comeBack cX6_comeBack 2 none { frames := 2, cells := 0, slots := 0, locals := 42 } D ad CNT ca SR (SH ad ca S) [.ref (ad 17 0), .int (x)] (PM ad ca (rComeBack S x)) := by
  refine CV.of _ RX6 (by decide +kernel) rfl (Nat.le_of_ble_eq_true rfl) ?_
  intro p9 e9 s9 m9 a9 b9 me9 c9 A9 hB hr hnm9
  refine g_aload_n hB 0 dX6_comeBack_0 rfl rfl ?_
  refine g_iload_n hB 1 dX6_comeBack_1 rfl rfl ?_
  refine g_callSI hB (c_X6_isPerson _ _) k_X6_121 yk_X6_isPerson ⟨Nat.le_of_ble_eq_true rfl, Nat.le_of_ble_eq_true rfl⟩ rfl (Nat.le_of_ble_eq_true rfl) ⟨Nat.le_of_ble_eq_true rfl, Nat.le_of_ble_eq_true rfl⟩ dX6_comeBack_2 ?_
  rintro _ _ ⟨rfl, rfl⟩
  refine b_if_ne hB (rgB x 8) 12 dX6_comeBack_5 (by decide) (fun c_5 => ?_) (fun c_5 => ?_)
  · obtain ⟨j, hj, rfl⟩ := rgB_t c_5
    have ij := ix_nI (show j < 2 ^ 31 by omega)
    refine g_aload_n hB 0 dX6_comeBack_12 rfl rfl ?_
    refine g_get (ci := 6) (T := TX6) (N := 26) hB in_X6 rfl 17 0 3 (by decide) (by decide) rfl tw_fl_X6_13 rfl dX6_comeBack_13 ?_
    refine g_iload_n hB 1 dX6_comeBack_16 rfl rfl ?_
    refine g_iald hB 18 1 j (n := 8) (by decide) rfl (by first | assumption | omega) (Nat.le_of_ble_eq_true rfl) dX6_comeBack_17 ?_
    refine g_iconst hB (nI 1) dX6_comeBack_18 rfl ?_
    refine g_icmp_eq hB 26 dX6_comeBack_19 (by decide) (fun c_19 => ?_) (fun c_19 => ?_)
    · refine g_iconst hB (nI 0) dX6_comeBack_26 rfl ?_
      refine s_put (ci := 6) (T := TX6) (N := 26) hB in_X6 rfl tyX6 tyX6_ok nmX6 17 0 0 (by decide) (by decide) rfl rfl tw_fl_X6_74 rfl rfl rfl (Nat.le_of_ble_eq_true rfl) dX6_comeBack_27 ?_
      refine g_aload_n hB 0 dX6_comeBack_30 rfl rfl ?_
      refine g_get (ci := 6) (T := TX6) (N := 26) hB in_X6 rfl 17 0 0 (by decide) (by decide) rfl tw_fl_X6_74 rfl dX6_comeBack_31 ?_
      refine g_top ((nI 0)) rfl ?_
      refine g_if_ne hB 44 dX6_comeBack_34 (by decide) (fun z => absurd rfl z) (fun _ => ?_)
      refine g_aload_n hB 0 dX6_comeBack_37 rfl rfl ?_
      refine g_get (ci := 6) (T := TX6) (N := 26) hB in_X6 rfl 17 0 3 (by decide) (by decide) rfl tw_fl_X6_13 rfl dX6_comeBack_38 ?_
      refine g_iload_n hB 1 dX6_comeBack_41 rfl rfl ?_
      refine g_iconst hB (nI 0) dX6_comeBack_42 rfl ?_
      refine s_iast hB 18 1 j (n := 8) (by decide) (fun _ => rfl) (by first | assumption | omega) (Nat.le_of_ble_eq_true rfl) dX6_comeBack_43 ?_
      exact g_vret hB hr (Nat.le_of_ble_eq_true rfl) (Nat.le_of_ble_eq_true rfl) (by first | (show _ = _; simp only [rComeBack, c_5, c_19, ij, decide_true, decide_false, cond_true, cond_false]) | (show _ = _; simp only [rComeBack, c_5, c_19, cond_true, cond_false])) dX6_comeBack_44
    · refine g_iconst hB (nI 2) dX6_comeBack_22 rfl ?_
      refine g_goto hB 27 dX6_comeBack_23 (by decide) ?_
      refine s_put (ci := 6) (T := TX6) (N := 26) hB in_X6 rfl tyX6 tyX6_ok nmX6 17 0 0 (by decide) (by decide) rfl rfl tw_fl_X6_74 rfl rfl rfl (Nat.le_of_ble_eq_true rfl) dX6_comeBack_27 ?_
      refine g_aload_n hB 0 dX6_comeBack_30 rfl rfl ?_
      refine g_get (ci := 6) (T := TX6) (N := 26) hB in_X6 rfl 17 0 0 (by decide) (by decide) rfl tw_fl_X6_74 rfl dX6_comeBack_31 ?_
      refine g_top ((nI 2)) rfl ?_
      refine g_if_ne hB 44 dX6_comeBack_34 (by decide) (fun _ => ?_) (fun z => absurd z (by decide))
      exact g_vret hB hr (Nat.le_of_ble_eq_true rfl) (Nat.le_of_ble_eq_true rfl) (by first | (show _ = _; simp only [rComeBack, c_5, c_19, ij, decide_true, decide_false, cond_true, cond_false]) | (show _ = _; simp only [rComeBack, c_5, c_19, cond_true, cond_false])) dX6_comeBack_44
  · refine g_iconst hB (nI 1) dX6_comeBack_8 rfl ?_
    refine g_goto hB 27 dX6_comeBack_9 (by decide) ?_
    refine s_put (ci := 6) (T := TX6) (N := 26) hB in_X6 rfl tyX6 tyX6_ok nmX6 17 0 0 (by decide) (by decide) rfl rfl tw_fl_X6_74 rfl rfl rfl (Nat.le_of_ble_eq_true rfl) dX6_comeBack_27 ?_
    refine g_aload_n hB 0 dX6_comeBack_30 rfl rfl ?_
    refine g_get (ci := 6) (T := TX6) (N := 26) hB in_X6 rfl 17 0 0 (by decide) (by decide) rfl tw_fl_X6_74 rfl dX6_comeBack_31 ?_
    refine g_top ((nI 1)) rfl ?_
    refine g_if_ne hB 44 dX6_comeBack_34 (by decide) (fun _ => ?_) (fun z => absurd z (by decide))
    exact g_vret hB hr (Nat.le_of_ble_eq_true rfl) (Nat.le_of_ble_eq_true rfl) (by first | (show _ = _; simp only [rComeBack, c_5, ij, decide_true, decide_false, cond_true, cond_false]) | (show _ = _; simp only [rComeBack, c_5, cond_true, cond_false])) dX6_comeBack_44
theorem c_X6_day (S : Mem) : CI l yX6_day cX6_day 1 (some .int) { frames := 0, cells := 0, slots := 0, locals := 0 } D ad CNT ca SR (SH ad ca S) [.ref (ad 17 0)] (PR ad ca (S 17 0 1) (uM S 17 0 0 (nI 0))) := by
  refine CI.of _ RX6 (by decide +kernel) rfl (Nat.le_of_ble_eq_true rfl) ?_
  intro p9 e9 s9 m9 a9 b9 me9 c9 A9 hB hr hnm9
  refine g_aload_n hB 0 dX6_day_0 rfl rfl ?_
  refine g_iconst hB (nI 0) dX6_day_1 rfl ?_
  refine s_put (ci := 6) (T := TX6) (N := 26) hB in_X6 rfl tyX6 tyX6_ok nmX6 17 0 0 (by decide) (by decide) rfl rfl tw_fl_X6_74 rfl rfl rfl (Nat.le_of_ble_eq_true rfl) dX6_day_2 ?_
  refine g_aload_n hB 0 dX6_day_5 rfl rfl ?_
  refine g_get (ci := 6) (T := TX6) (N := 26) hB in_X6 rfl 17 0 1 (by decide) (by decide) rfl tw_fl_X6_109 rfl dX6_day_6 ?_
  exact g_iret hB hr rfl (Nat.le_of_ble_eq_true rfl) (Nat.le_of_ble_eq_true rfl) (⟨rfl, rfl⟩) dX6_day_9
theorem c_X6_changes (S : Mem) : CI l yX6_changes cX6_changes 1 (some .int) { frames := 0, cells := 0, slots := 0, locals := 0 } D ad CNT ca SR (SH ad ca S) [.ref (ad 17 0)] (PR ad ca (S 17 0 11) (uM S 17 0 0 (nI 0))) := by
  refine CI.of _ RX6 (by decide +kernel) rfl (Nat.le_of_ble_eq_true rfl) ?_
  intro p9 e9 s9 m9 a9 b9 me9 c9 A9 hB hr hnm9
  refine g_aload_n hB 0 dX6_changes_0 rfl rfl ?_
  refine g_iconst hB (nI 0) dX6_changes_1 rfl ?_
  refine s_put (ci := 6) (T := TX6) (N := 26) hB in_X6 rfl tyX6 tyX6_ok nmX6 17 0 0 (by decide) (by decide) rfl rfl tw_fl_X6_74 rfl rfl rfl (Nat.le_of_ble_eq_true rfl) dX6_changes_2 ?_
  refine g_aload_n hB 0 dX6_changes_5 rfl rfl ?_
  refine g_get (ci := 6) (T := TX6) (N := 26) hB in_X6 rfl 17 0 11 (by decide) (by decide) rfl tw_fl_X6_84 rfl dX6_changes_6 ?_
  exact g_iret hB hr rfl (Nat.le_of_ble_eq_true rfl) (Nat.le_of_ble_eq_true rfl) (⟨rfl, rfl⟩) dX6_changes_9
theorem c_X6_addGroup (S : Mem) (x : Int32) (ng : Nat) (hg : S 17 0 4 = nI ng) (hng : ng ≤ 10) : CI l yX6_addGroup cX6_addGroup 2 (some .int) { frames := 2, cells := 0, slots := 0, locals := 43 } D ad CNT ca SR (SH ad ca S) [.ref (ad 17 0), .int (x)] (PR ad ca (rAddGroup (uM S 17 0 0 (nI 0)) x ng).1 (rAddGroup (uM S 17 0 0 (nI 0)) x ng).2) := by
  refine CI.of _ RX6 (by decide +kernel) rfl (Nat.le_of_ble_eq_true rfl) ?_
  intro p9 e9 s9 m9 a9 b9 me9 c9 A9 hB hr hnm9
  refine g_aload_n hB 0 dX6_addGroup_0 rfl rfl ?_
  refine g_iconst hB (nI 0) dX6_addGroup_1 rfl ?_
  refine s_put (ci := 6) (T := TX6) (N := 26) hB in_X6 rfl tyX6 tyX6_ok nmX6 17 0 0 (by decide) (by decide) rfl rfl tw_fl_X6_74 rfl rfl rfl (Nat.le_of_ble_eq_true rfl) dX6_addGroup_2 ?_
  refine g_aload_n hB 0 dX6_addGroup_5 rfl rfl ?_
  refine g_iload_n hB 1 dX6_addGroup_6 rfl rfl ?_
  refine g_callVI hB (c_X6_isGroup _ _ ng hg hng) k_X6_87 rfl yk_X6_isGroup ⟨Nat.le_of_ble_eq_true rfl, Nat.le_of_ble_eq_true rfl⟩ ⟨(by decide), _, _, _, rfl, rfl, rfl⟩ rfl (Nat.le_of_ble_eq_true rfl) ⟨Nat.le_of_ble_eq_true rfl, Nat.le_of_ble_eq_true rfl⟩ dX6_addGroup_7 ?_
  rintro _ _ ⟨rfl, rfl⟩
  refine b_if_ne hB (rgB x ng) 19 dX6_addGroup_10 (by decide) (fun c_10 => ?_) (fun c_10 => ?_)
  · refine g_aload_n hB 0 dX6_addGroup_19 rfl rfl ?_
    refine g_get (ci := 6) (T := TX6) (N := 26) hB in_X6 rfl 17 0 4 (by decide) (by decide) rfl tw_fl_X6_16 rfl dX6_addGroup_20 ?_
    refine g_top (nI ng) (hg) ?_
    refine g_bipush hB (nI 10) dX6_addGroup_23 rfl ?_
    refine n_icmp_ne hB ng 10 34 dX6_addGroup_25 (by decide) (by omega) (by omega) (fun c_25 => ?_) (fun c_25 => ?_)
    · have d_25 : decide (ng = 10) = false := decide_eq_false c_25
      refine g_aload_n hB 0 dX6_addGroup_34 rfl rfl ?_
      refine g_get (ci := 6) (T := TX6) (N := 26) hB in_X6 rfl 17 0 5 (by decide) (by decide) rfl tw_fl_X6_20 rfl dX6_addGroup_35 ?_
      refine g_aload_n hB 0 dX6_addGroup_38 rfl rfl ?_
      refine g_get (ci := 6) (T := TX6) (N := 26) hB in_X6 rfl 17 0 4 (by decide) (by decide) rfl tw_fl_X6_16 rfl dX6_addGroup_39 ?_
      refine g_top (nI ng) (hg) ?_
      refine g_iload_n hB 1 dX6_addGroup_42 rfl rfl ?_
      refine s_iast hB 18 2 ng (n := 10) (by decide) (fun _ => rfl) (by first | assumption | omega) (Nat.le_of_ble_eq_true rfl) dX6_addGroup_43 ?_
      refine g_aload_n hB 0 dX6_addGroup_44 rfl rfl ?_
      refine g_dup hB rfl dX6_addGroup_45 ?_
      refine g_get (ci := 6) (T := TX6) (N := 26) hB in_X6 rfl 17 0 4 (by decide) (by decide) rfl tw_fl_X6_16 rfl dX6_addGroup_46 ?_
      refine g_top (nI ng) (hg) ?_
      refine g_iconst hB (nI 1) dX6_addGroup_49 rfl ?_
      refine g_iadd hB dX6_addGroup_50 ?_
      refine g_top (nI (ng + 1)) (nI_add _ _) ?_
      refine s_put (ci := 6) (T := TX6) (N := 26) hB in_X6 rfl tyX6 tyX6_ok nmX6 17 0 4 (by decide) (by decide) rfl rfl tw_fl_X6_16 rfl rfl rfl (Nat.le_of_ble_eq_true rfl) dX6_addGroup_51 ?_
      refine g_aload_n hB 0 dX6_addGroup_54 rfl rfl ?_
      refine g_get (ci := 6) (T := TX6) (N := 26) hB in_X6 rfl 17 0 4 (by decide) (by decide) rfl tw_fl_X6_16 rfl dX6_addGroup_55 ?_
      refine g_top ((nI (ng + 1))) rfl ?_
      refine g_iconst hB (nI 1) dX6_addGroup_58 rfl ?_
      refine g_isub hB dX6_addGroup_59 ?_
      refine g_top (nI (ng)) (pk_sub (by omega)) ?_
      exact g_iret hB hr rfl (Nat.le_of_ble_eq_true rfl) (Nat.le_of_ble_eq_true rfl) (⟨by simp only [rAddGroup, fl, c_10, d_25, decide_true, decide_false, not_true_eq_false, not_false_eq_true, Bool.or_true, Bool.true_or, Bool.or_false, Bool.false_or, cond_true, cond_false], by simp only [rAddGroup, fl, c_10, d_25, decide_true, decide_false, not_true_eq_false, not_false_eq_true, Bool.or_true, Bool.true_or, Bool.or_false, Bool.false_or, cond_true, cond_false]⟩) dX6_addGroup_60
    · have d_25 : decide (ng = 10) = true := decide_eq_true c_25
      refine g_aload_n hB 0 dX6_addGroup_28 rfl rfl ?_
      refine g_iconst hB (nI 2) dX6_addGroup_29 rfl ?_
      refine g_callVI hB (c_X6_fails _ _) k_X6_112 rfl yk_X6_fails ⟨Nat.le_of_ble_eq_true rfl, Nat.le_of_ble_eq_true rfl⟩ ⟨(by decide), _, _, _, rfl, rfl, rfl⟩ rfl (Nat.le_of_ble_eq_true rfl) ⟨Nat.le_of_ble_eq_true rfl, Nat.le_of_ble_eq_true rfl⟩ dX6_addGroup_30 ?_
      rintro _ _ ⟨rfl, rfl⟩
      exact g_iret hB hr rfl (Nat.le_of_ble_eq_true rfl) (Nat.le_of_ble_eq_true rfl) (⟨by simp only [rAddGroup, fl, c_10, d_25, decide_true, decide_false, not_true_eq_false, not_false_eq_true, Bool.or_true, Bool.true_or, Bool.or_false, Bool.false_or, cond_true, cond_false], by simp only [rAddGroup, fl, c_10, d_25, decide_true, decide_false, not_true_eq_false, not_false_eq_true, Bool.or_true, Bool.true_or, Bool.or_false, Bool.false_or, cond_true, cond_false]⟩) dX6_addGroup_33
  · refine g_aload_n hB 0 dX6_addGroup_13 rfl rfl ?_
    refine g_iconst hB (nI 1) dX6_addGroup_14 rfl ?_
    refine g_callVI hB (c_X6_fails _ _) k_X6_112 rfl yk_X6_fails ⟨Nat.le_of_ble_eq_true rfl, Nat.le_of_ble_eq_true rfl⟩ ⟨(by decide), _, _, _, rfl, rfl, rfl⟩ rfl (Nat.le_of_ble_eq_true rfl) ⟨Nat.le_of_ble_eq_true rfl, Nat.le_of_ble_eq_true rfl⟩ dX6_addGroup_15 ?_
    rintro _ _ ⟨rfl, rfl⟩
    exact g_iret hB hr rfl (Nat.le_of_ble_eq_true rfl) (Nat.le_of_ble_eq_true rfl) (⟨by simp only [rAddGroup, fl, c_10, decide_true, decide_false, not_true_eq_false, not_false_eq_true, Bool.or_true, Bool.true_or, Bool.or_false, Bool.false_or, cond_true, cond_false], by simp only [rAddGroup, fl, c_10, decide_true, decide_false, not_true_eq_false, not_false_eq_true, Bool.or_true, Bool.true_or, Bool.or_false, Bool.false_or, cond_true, cond_false]⟩) dX6_addGroup_18
theorem c_X6_addMachine (S : Mem) (x : Int32) (ng nm : Nat) (hg : S 17 0 4 = nI ng) (hng : ng ≤ 10) (hm : S 17 0 6 = nI nm) (hnm : nm ≤ 12) : CI l yX6_addMachine cX6_addMachine 2 (some .int) { frames := 2, cells := 0, slots := 0, locals := 43 } D ad CNT ca SR (SH ad ca S) [.ref (ad 17 0), .int (x)] (PR ad ca (rAddMachine (uM S 17 0 0 (nI 0)) x ng nm).1 (rAddMachine (uM S 17 0 0 (nI 0)) x ng nm).2) := by
  refine CI.of _ RX6 (by decide +kernel) rfl (Nat.le_of_ble_eq_true rfl) ?_
  intro p9 e9 s9 m9 a9 b9 me9 c9 A9 hB hr hnm9
  refine g_aload_n hB 0 dX6_addMachine_0 rfl rfl ?_
  refine g_iconst hB (nI 0) dX6_addMachine_1 rfl ?_
  refine s_put (ci := 6) (T := TX6) (N := 26) hB in_X6 rfl tyX6 tyX6_ok nmX6 17 0 0 (by decide) (by decide) rfl rfl tw_fl_X6_74 rfl rfl rfl (Nat.le_of_ble_eq_true rfl) dX6_addMachine_2 ?_
  refine g_aload_n hB 0 dX6_addMachine_5 rfl rfl ?_
  refine g_iload_n hB 1 dX6_addMachine_6 rfl rfl ?_
  refine g_callVI hB (c_X6_isGroup _ _ ng hg hng) k_X6_87 rfl yk_X6_isGroup ⟨Nat.le_of_ble_eq_true rfl, Nat.le_of_ble_eq_true rfl⟩ ⟨(by decide), _, _, _, rfl, rfl, rfl⟩ rfl (Nat.le_of_ble_eq_true rfl) ⟨Nat.le_of_ble_eq_true rfl, Nat.le_of_ble_eq_true rfl⟩ dX6_addMachine_7 ?_
  rintro _ _ ⟨rfl, rfl⟩
  refine b_if_ne hB (rgB x ng) 19 dX6_addMachine_10 (by decide) (fun c_10 => ?_) (fun c_10 => ?_)
  · refine g_aload_n hB 0 dX6_addMachine_19 rfl rfl ?_
    refine g_get (ci := 6) (T := TX6) (N := 26) hB in_X6 rfl 17 0 6 (by decide) (by decide) rfl tw_fl_X6_81 rfl dX6_addMachine_20 ?_
    refine g_top (nI nm) (hm) ?_
    refine g_bipush hB (nI 12) dX6_addMachine_23 rfl ?_
    refine n_icmp_ne hB nm 12 34 dX6_addMachine_25 (by decide) (by omega) (by omega) (fun c_25 => ?_) (fun c_25 => ?_)
    · have d_25 : decide (nm = 12) = false := decide_eq_false c_25
      refine g_aload_n hB 0 dX6_addMachine_34 rfl rfl ?_
      refine g_get (ci := 6) (T := TX6) (N := 26) hB in_X6 rfl 17 0 8 (by decide) (by decide) rfl tw_fl_X6_26 rfl dX6_addMachine_35 ?_
      refine g_aload_n hB 0 dX6_addMachine_38 rfl rfl ?_
      refine g_get (ci := 6) (T := TX6) (N := 26) hB in_X6 rfl 17 0 6 (by decide) (by decide) rfl tw_fl_X6_81 rfl dX6_addMachine_39 ?_
      refine g_top (nI nm) (hm) ?_
      refine g_iload_n hB 1 dX6_addMachine_42 rfl rfl ?_
      refine s_iast hB 18 3 nm (n := 12) (by decide) (fun _ => rfl) (by first | assumption | omega) (Nat.le_of_ble_eq_true rfl) dX6_addMachine_43 ?_
      refine g_aload_n hB 0 dX6_addMachine_44 rfl rfl ?_
      refine g_dup hB rfl dX6_addMachine_45 ?_
      refine g_get (ci := 6) (T := TX6) (N := 26) hB in_X6 rfl 17 0 6 (by decide) (by decide) rfl tw_fl_X6_81 rfl dX6_addMachine_46 ?_
      refine g_top (nI nm) (hm) ?_
      refine g_iconst hB (nI 1) dX6_addMachine_49 rfl ?_
      refine g_iadd hB dX6_addMachine_50 ?_
      refine g_top (nI (nm + 1)) (nI_add _ _) ?_
      refine s_put (ci := 6) (T := TX6) (N := 26) hB in_X6 rfl tyX6 tyX6_ok nmX6 17 0 6 (by decide) (by decide) rfl rfl tw_fl_X6_81 rfl rfl rfl (Nat.le_of_ble_eq_true rfl) dX6_addMachine_51 ?_
      refine g_aload_n hB 0 dX6_addMachine_54 rfl rfl ?_
      refine g_get (ci := 6) (T := TX6) (N := 26) hB in_X6 rfl 17 0 6 (by decide) (by decide) rfl tw_fl_X6_81 rfl dX6_addMachine_55 ?_
      refine g_top ((nI (nm + 1))) rfl ?_
      refine g_iconst hB (nI 1) dX6_addMachine_58 rfl ?_
      refine g_isub hB dX6_addMachine_59 ?_
      refine g_top (nI (nm)) (pk_sub (by omega)) ?_
      exact g_iret hB hr rfl (Nat.le_of_ble_eq_true rfl) (Nat.le_of_ble_eq_true rfl) (⟨by simp only [rAddMachine, fl, c_10, d_25, decide_true, decide_false, not_true_eq_false, not_false_eq_true, Bool.or_true, Bool.true_or, Bool.or_false, Bool.false_or, cond_true, cond_false], by simp only [rAddMachine, fl, c_10, d_25, decide_true, decide_false, not_true_eq_false, not_false_eq_true, Bool.or_true, Bool.true_or, Bool.or_false, Bool.false_or, cond_true, cond_false]⟩) dX6_addMachine_60
    · have d_25 : decide (nm = 12) = true := decide_eq_true c_25
      refine g_aload_n hB 0 dX6_addMachine_28 rfl rfl ?_
      refine g_iconst hB (nI 2) dX6_addMachine_29 rfl ?_
      refine g_callVI hB (c_X6_fails _ _) k_X6_112 rfl yk_X6_fails ⟨Nat.le_of_ble_eq_true rfl, Nat.le_of_ble_eq_true rfl⟩ ⟨(by decide), _, _, _, rfl, rfl, rfl⟩ rfl (Nat.le_of_ble_eq_true rfl) ⟨Nat.le_of_ble_eq_true rfl, Nat.le_of_ble_eq_true rfl⟩ dX6_addMachine_30 ?_
      rintro _ _ ⟨rfl, rfl⟩
      exact g_iret hB hr rfl (Nat.le_of_ble_eq_true rfl) (Nat.le_of_ble_eq_true rfl) (⟨by simp only [rAddMachine, fl, c_10, d_25, decide_true, decide_false, not_true_eq_false, not_false_eq_true, Bool.or_true, Bool.true_or, Bool.or_false, Bool.false_or, cond_true, cond_false], by simp only [rAddMachine, fl, c_10, d_25, decide_true, decide_false, not_true_eq_false, not_false_eq_true, Bool.or_true, Bool.true_or, Bool.or_false, Bool.false_or, cond_true, cond_false]⟩) dX6_addMachine_33
  · refine g_aload_n hB 0 dX6_addMachine_13 rfl rfl ?_
    refine g_iconst hB (nI 1) dX6_addMachine_14 rfl ?_
    refine g_callVI hB (c_X6_fails _ _) k_X6_112 rfl yk_X6_fails ⟨Nat.le_of_ble_eq_true rfl, Nat.le_of_ble_eq_true rfl⟩ ⟨(by decide), _, _, _, rfl, rfl, rfl⟩ rfl (Nat.le_of_ble_eq_true rfl) ⟨Nat.le_of_ble_eq_true rfl, Nat.le_of_ble_eq_true rfl⟩ dX6_addMachine_15 ?_
    rintro _ _ ⟨rfl, rfl⟩
    exact g_iret hB hr rfl (Nat.le_of_ble_eq_true rfl) (Nat.le_of_ble_eq_true rfl) (⟨by simp only [rAddMachine, fl, c_10, decide_true, decide_false, not_true_eq_false, not_false_eq_true, Bool.or_true, Bool.true_or, Bool.or_false, Bool.false_or, cond_true, cond_false], by simp only [rAddMachine, fl, c_10, decide_true, decide_false, not_true_eq_false, not_false_eq_true, Bool.or_true, Bool.true_or, Bool.or_false, Bool.false_or, cond_true, cond_false]⟩) dX6_addMachine_18
theorem c_X6_work (S : Mem) (x d : Int32) (nm : Nat) (hm : S 17 0 6 = nI nm) (hnm : nm ≤ 12) (hT : TK S) : CI l yX6_work cX6_work 3 (some .int) { frames := 2, cells := 0, slots := 0, locals := 45 } D ad CNT ca SR (SH ad ca S) [.ref (ad 17 0), .int (x), .int (d)] (PR ad ca (rWork (uM S 17 0 0 (nI 0)) x d nm).1 (rWork (uM S 17 0 0 (nI 0)) x d nm).2) := by
  refine CI.of _ RX6 (by decide +kernel) rfl (Nat.le_of_ble_eq_true rfl) ?_
  intro p9 e9 s9 m9 a9 b9 me9 c9 A9 hB hr hnm9
  refine g_aload_n hB 0 dX6_work_0 rfl rfl ?_
  refine g_iconst hB (nI 0) dX6_work_1 rfl ?_
  refine s_put (ci := 6) (T := TX6) (N := 26) hB in_X6 rfl tyX6 tyX6_ok nmX6 17 0 0 (by decide) (by decide) rfl rfl tw_fl_X6_74 rfl rfl rfl (Nat.le_of_ble_eq_true rfl) dX6_work_2 ?_
  refine g_aload_n hB 0 dX6_work_5 rfl rfl ?_
  refine g_iload_n hB 1 dX6_work_6 rfl rfl ?_
  refine g_callVI hB (c_X6_isMachine _ _ nm hm hnm) k_X6_145 rfl yk_X6_isMachine ⟨Nat.le_of_ble_eq_true rfl, Nat.le_of_ble_eq_true rfl⟩ ⟨(by decide), _, _, _, rfl, rfl, rfl⟩ rfl (Nat.le_of_ble_eq_true rfl) ⟨Nat.le_of_ble_eq_true rfl, Nat.le_of_ble_eq_true rfl⟩ dX6_work_7 ?_
  rintro _ _ ⟨rfl, rfl⟩
  refine b_if_ne hB (rgB x nm) 19 dX6_work_10 (by decide) (fun c_10 => ?_) (fun c_10 => ?_)
  · obtain ⟨j, hj, rfl⟩ := rgB_t c_10
    have ij := ix_nI (show j < 2 ^ 31 by omega)
    refine g_iload_n hB 2 dX6_work_19 rfl rfl ?_
    refine g_iconst hB (nI 1) dX6_work_20 rfl ?_
    refine g_bipush hB (nI 30) dX6_work_21 rfl ?_
    refine g_callSI hB (c_X6_in _ _ _ _) k_X6_77 yk_X6_in ⟨Nat.le_of_ble_eq_true rfl, Nat.le_of_ble_eq_true rfl⟩ rfl (Nat.le_of_ble_eq_true rfl) ⟨Nat.le_of_ble_eq_true rfl, Nat.le_of_ble_eq_true rfl⟩ dX6_work_23 ?_
    rintro _ _ ⟨rfl, rfl⟩
    refine b_if_ne hB (inR d (nI 1) (nI 30)) 35 dX6_work_26 (by decide) (fun c_26 => ?_) (fun c_26 => ?_)
    · refine g_aload_n hB 0 dX6_work_35 rfl rfl ?_
      refine g_iload_n hB 1 dX6_work_36 rfl rfl ?_
      refine g_callVI hB (c_X6_works _ j (by omega)) k_X6_135 rfl yk_X6_works ⟨Nat.le_of_ble_eq_true rfl, Nat.le_of_ble_eq_true rfl⟩ ⟨(by decide), _, _, _, rfl, rfl, rfl⟩ rfl (Nat.le_of_ble_eq_true rfl) ⟨Nat.le_of_ble_eq_true rfl, Nat.le_of_ble_eq_true rfl⟩ dX6_work_37 ?_
      rintro _ _ ⟨rfl, rfl⟩
      refine b_if_ne hB (decide ((uM S 17 0 0 (nI 0)) 17 0 1 < (uM S 17 0 0 (nI 0)) 18 4 j)) 51 dX6_work_40 (by decide) (fun c_40 => ?_) (fun c_40 => ?_)
      · refine g_aload_n hB 0 dX6_work_51 rfl rfl ?_
        refine g_iconst hB (nI 3) dX6_work_52 rfl ?_
        refine g_callVI hB (c_X6_fails _ _) k_X6_112 rfl yk_X6_fails ⟨Nat.le_of_ble_eq_true rfl, Nat.le_of_ble_eq_true rfl⟩ ⟨(by decide), _, _, _, rfl, rfl, rfl⟩ rfl (Nat.le_of_ble_eq_true rfl) ⟨Nat.le_of_ble_eq_true rfl, Nat.le_of_ble_eq_true rfl⟩ dX6_work_53 ?_
        rintro _ _ ⟨rfl, rfl⟩
        exact g_iret hB hr rfl (Nat.le_of_ble_eq_true rfl) (Nat.le_of_ble_eq_true rfl) (⟨by first | (simp only [rWork, fl, c_10, c_26, c_40, ij, cond_true, cond_false]; done) | (simp only [rWork, fl, c_10, c_26, c_40, cond_true, cond_false]; done), by first | (simp only [rWork, fl, c_10, c_26, c_40, ij, cond_true, cond_false]; done) | (simp only [rWork, fl, c_10, c_26, c_40, cond_true, cond_false]; done)⟩) dX6_work_56
      · refine g_aload_n hB 0 dX6_work_43 rfl rfl ?_
        refine g_iload_n hB 1 dX6_work_44 rfl rfl ?_
        refine g_callVI hB (c_X6_isHalted _ j (by omega) hT) k_X6_118 rfl yk_X6_isHalted ⟨Nat.le_of_ble_eq_true rfl, Nat.le_of_ble_eq_true rfl⟩ ⟨(by decide), _, _, _, rfl, rfl, rfl⟩ rfl (Nat.le_of_ble_eq_true rfl) ⟨Nat.le_of_ble_eq_true rfl, Nat.le_of_ble_eq_true rfl⟩ dX6_work_45 ?_
        rintro _ _ ⟨rfl, rfl⟩
        refine b_if_eq hB (mHalt (uM S 17 0 0 (nI 0)) j) 57 dX6_work_48 (by decide) (fun c_48 => ?_) (fun c_48 => ?_)
        · refine g_aload_n hB 0 dX6_work_57 rfl rfl ?_
          refine g_get (ci := 6) (T := TX6) (N := 26) hB in_X6 rfl 17 0 9 (by decide) (by decide) rfl tw_fl_X6_29 rfl dX6_work_58 ?_
          refine g_iload_n hB 1 dX6_work_61 rfl rfl ?_
          refine g_aload_n hB 0 dX6_work_62 rfl rfl ?_
          refine g_get (ci := 6) (T := TX6) (N := 26) hB in_X6 rfl 17 0 1 (by decide) (by decide) rfl tw_fl_X6_109 rfl dX6_work_63 ?_
          refine g_iload_n hB 2 dX6_work_66 rfl rfl ?_
          refine g_iadd hB dX6_work_67 ?_
          refine s_iast hB 18 4 j (n := 12) (by decide) (fun _ => rfl) (by first | assumption | omega) (Nat.le_of_ble_eq_true rfl) dX6_work_68 ?_
          refine g_aload_n hB 0 dX6_work_69 rfl rfl ?_
          refine g_get (ci := 6) (T := TX6) (N := 26) hB in_X6 rfl 17 0 9 (by decide) (by decide) rfl tw_fl_X6_29 rfl dX6_work_70 ?_
          refine g_iload_n hB 1 dX6_work_73 rfl rfl ?_
          refine g_iald hB 18 4 j (n := 12) (by decide) rfl (by first | assumption | omega) (Nat.le_of_ble_eq_true rfl) dX6_work_74 ?_
          refine g_top (((uM S 17 0 0 (nI 0)) 17 0 1 + d)) (uM_s) ?_
          exact g_iret hB hr rfl (Nat.le_of_ble_eq_true rfl) (Nat.le_of_ble_eq_true rfl) (⟨by first | (simp only [rWork, fl, c_10, c_26, c_40, c_48, ij, cond_true, cond_false]; done) | (simp only [rWork, fl, c_10, c_26, c_40, c_48, cond_true, cond_false]; done), by first | (simp only [rWork, fl, c_10, c_26, c_40, c_48, ij, cond_true, cond_false]; done) | (simp only [rWork, fl, c_10, c_26, c_40, c_48, cond_true, cond_false]; done)⟩) dX6_work_75
        · refine g_aload_n hB 0 dX6_work_51 rfl rfl ?_
          refine g_iconst hB (nI 3) dX6_work_52 rfl ?_
          refine g_callVI hB (c_X6_fails _ _) k_X6_112 rfl yk_X6_fails ⟨Nat.le_of_ble_eq_true rfl, Nat.le_of_ble_eq_true rfl⟩ ⟨(by decide), _, _, _, rfl, rfl, rfl⟩ rfl (Nat.le_of_ble_eq_true rfl) ⟨Nat.le_of_ble_eq_true rfl, Nat.le_of_ble_eq_true rfl⟩ dX6_work_53 ?_
          rintro _ _ ⟨rfl, rfl⟩
          exact g_iret hB hr rfl (Nat.le_of_ble_eq_true rfl) (Nat.le_of_ble_eq_true rfl) (⟨by first | (simp only [rWork, fl, c_10, c_26, c_40, c_48, ij, cond_true, cond_false]; done) | (simp only [rWork, fl, c_10, c_26, c_40, c_48, cond_true, cond_false]; done), by first | (simp only [rWork, fl, c_10, c_26, c_40, c_48, ij, cond_true, cond_false]; done) | (simp only [rWork, fl, c_10, c_26, c_40, c_48, cond_true, cond_false]; done)⟩) dX6_work_56
    · refine g_aload_n hB 0 dX6_work_29 rfl rfl ?_
      refine g_iconst hB (nI 2) dX6_work_30 rfl ?_
      refine g_callVI hB (c_X6_fails _ _) k_X6_112 rfl yk_X6_fails ⟨Nat.le_of_ble_eq_true rfl, Nat.le_of_ble_eq_true rfl⟩ ⟨(by decide), _, _, _, rfl, rfl, rfl⟩ rfl (Nat.le_of_ble_eq_true rfl) ⟨Nat.le_of_ble_eq_true rfl, Nat.le_of_ble_eq_true rfl⟩ dX6_work_31 ?_
      rintro _ _ ⟨rfl, rfl⟩
      exact g_iret hB hr rfl (Nat.le_of_ble_eq_true rfl) (Nat.le_of_ble_eq_true rfl) (⟨by first | (simp only [rWork, fl, c_10, c_26, ij, cond_true, cond_false]; done) | (simp only [rWork, fl, c_10, c_26, cond_true, cond_false]; done), by first | (simp only [rWork, fl, c_10, c_26, ij, cond_true, cond_false]; done) | (simp only [rWork, fl, c_10, c_26, cond_true, cond_false]; done)⟩) dX6_work_34
  · refine g_aload_n hB 0 dX6_work_13 rfl rfl ?_
    refine g_iconst hB (nI 1) dX6_work_14 rfl ?_
    refine g_callVI hB (c_X6_fails _ _) k_X6_112 rfl yk_X6_fails ⟨Nat.le_of_ble_eq_true rfl, Nat.le_of_ble_eq_true rfl⟩ ⟨(by decide), _, _, _, rfl, rfl, rfl⟩ rfl (Nat.le_of_ble_eq_true rfl) ⟨Nat.le_of_ble_eq_true rfl, Nat.le_of_ble_eq_true rfl⟩ dX6_work_15 ?_
    rintro _ _ ⟨rfl, rfl⟩
    exact g_iret hB hr rfl (Nat.le_of_ble_eq_true rfl) (Nat.le_of_ble_eq_true rfl) (⟨by first | (simp only [rWork, fl, c_10, ij, cond_true, cond_false]; done) | (simp only [rWork, fl, c_10, cond_true, cond_false]; done), by first | (simp only [rWork, fl, c_10, ij, cond_true, cond_false]; done) | (simp only [rWork, fl, c_10, cond_true, cond_false]; done)⟩) dX6_work_18
theorem c_X6_setPace (S : Mem) (x : Int32) : CI l yX6_setPace cX6_setPace 3 (some .int) { frames := 1, cells := 0, slots := 0, locals := 22 } D ad CNT ca SR (SH ad ca S) [.ref (ad 17 0), .int (x)] (PR ad ca (rSetPace (uM S 17 0 0 (nI 0)) x).1 (rSetPace (uM S 17 0 0 (nI 0)) x).2) := by
  refine CI.of _ RX6 (by decide +kernel) rfl (Nat.le_of_ble_eq_true rfl) ?_
  intro p9 e9 s9 m9 a9 b9 me9 c9 A9 hB hr hnm9
  refine g_aload_n hB 0 dX6_setPace_0 rfl rfl ?_
  refine g_iconst hB (nI 0) dX6_setPace_1 rfl ?_
  refine s_put (ci := 6) (T := TX6) (N := 26) hB in_X6 rfl tyX6 tyX6_ok nmX6 17 0 0 (by decide) (by decide) rfl rfl tw_fl_X6_74 rfl rfl rfl (Nat.le_of_ble_eq_true rfl) dX6_setPace_2 ?_
  refine g_iload_n hB 1 dX6_setPace_5 rfl rfl ?_
  refine g_iconst hB (nI 0) dX6_setPace_6 rfl ?_
  refine g_bipush hB (nI 12) dX6_setPace_7 rfl ?_
  refine g_callSI hB (c_X6_in _ _ _ _) k_X6_77 yk_X6_in ⟨Nat.le_of_ble_eq_true rfl, Nat.le_of_ble_eq_true rfl⟩ rfl (Nat.le_of_ble_eq_true rfl) ⟨Nat.le_of_ble_eq_true rfl, Nat.le_of_ble_eq_true rfl⟩ dX6_setPace_9 ?_
  rintro _ _ ⟨rfl, rfl⟩
  refine b_if_ne hB (inR x (nI 0) (nI 12)) 21 dX6_setPace_12 (by decide) (fun c_12 => ?_) (fun c_12 => ?_)
  · refine g_aload_n hB 0 dX6_setPace_21 rfl rfl ?_
    refine g_get (ci := 6) (T := TX6) (N := 26) hB in_X6 rfl 17 0 7 (by decide) (by decide) rfl tw_fl_X6_23 rfl dX6_setPace_22 ?_
    refine g_istore_n hB 2 dX6_setPace_25 rfl (by decide) ?_
    refine g_aload_n hB 0 dX6_setPace_26 rfl rfl ?_
    refine g_iload_n hB 1 dX6_setPace_27 rfl rfl ?_
    refine s_put (ci := 6) (T := TX6) (N := 26) hB in_X6 rfl tyX6 tyX6_ok nmX6 17 0 7 (by decide) (by decide) rfl rfl tw_fl_X6_23 rfl rfl rfl (Nat.le_of_ble_eq_true rfl) dX6_setPace_28 ?_
    refine g_iload_n hB 2 dX6_setPace_31 rfl rfl ?_
    exact g_iret hB hr rfl (Nat.le_of_ble_eq_true rfl) (Nat.le_of_ble_eq_true rfl) (⟨by simp only [rSetPace, fl, c_12, decide_true, decide_false, not_true_eq_false, not_false_eq_true, Bool.or_true, Bool.true_or, Bool.or_false, Bool.false_or, cond_true, cond_false], by simp only [rSetPace, fl, c_12, decide_true, decide_false, not_true_eq_false, not_false_eq_true, Bool.or_true, Bool.true_or, Bool.or_false, Bool.false_or, cond_true, cond_false]⟩) dX6_setPace_32
  · refine g_aload_n hB 0 dX6_setPace_15 rfl rfl ?_
    refine g_iconst hB (nI 1) dX6_setPace_16 rfl ?_
    refine g_callVI hB (c_X6_fails _ _) k_X6_112 rfl yk_X6_fails ⟨Nat.le_of_ble_eq_true rfl, Nat.le_of_ble_eq_true rfl⟩ ⟨(by decide), _, _, _, rfl, rfl, rfl⟩ rfl (Nat.le_of_ble_eq_true rfl) ⟨Nat.le_of_ble_eq_true rfl, Nat.le_of_ble_eq_true rfl⟩ dX6_setPace_17 ?_
    rintro _ _ ⟨rfl, rfl⟩
    exact g_iret hB hr rfl (Nat.le_of_ble_eq_true rfl) (Nat.le_of_ble_eq_true rfl) (⟨by simp only [rSetPace, fl, c_12, decide_true, decide_false, not_true_eq_false, not_false_eq_true, Bool.or_true, Bool.true_or, Bool.or_false, Bool.false_or, cond_true, cond_false], by simp only [rSetPace, fl, c_12, decide_true, decide_false, not_true_eq_false, not_false_eq_true, Bool.or_true, Bool.true_or, Bool.or_false, Bool.false_or, cond_true, cond_false]⟩) dX6_setPace_20
theorem c_X6_isBusy (S : Mem) (x : Int32) (nm : Nat) (hm : S 17 0 6 = nI nm) (hnm : nm ≤ 12) : CI l yX6_isBusy cX6_isBusy 2 (some .boolean) { frames := 2, cells := 0, slots := 0, locals := 43 } D ad CNT ca SR (SH ad ca S) [.ref (ad 17 0), .int (x)] (PR ad ca (rIsBusy S x nm).1 (rIsBusy S x nm).2) := by
  refine CI.of _ RX6 (by decide +kernel) rfl (Nat.le_of_ble_eq_true rfl) ?_
  intro p9 e9 s9 m9 a9 b9 me9 c9 A9 hB hr hnm9
  refine g_aload_n hB 0 dX6_isBusy_0 rfl rfl ?_
  refine g_aload_n hB 0 dX6_isBusy_1 rfl rfl ?_
  refine g_iload_n hB 1 dX6_isBusy_2 rfl rfl ?_
  refine g_callVI hB (c_X6_isMachine _ _ nm hm hnm) k_X6_145 rfl yk_X6_isMachine ⟨Nat.le_of_ble_eq_true rfl, Nat.le_of_ble_eq_true rfl⟩ ⟨(by decide), _, _, _, rfl, rfl, rfl⟩ rfl (Nat.le_of_ble_eq_true rfl) ⟨Nat.le_of_ble_eq_true rfl, Nat.le_of_ble_eq_true rfl⟩ dX6_isBusy_3 ?_
  rintro _ _ ⟨rfl, rfl⟩
  refine b_if_eq hB (rgB x nm) 13 dX6_isBusy_6 (by decide) (fun c_6 => ?_) (fun c_6 => ?_)
  · refine g_iconst hB (nI 1) dX6_isBusy_13 rfl ?_
    refine s_put (ci := 6) (T := TX6) (N := 26) hB in_X6 rfl tyX6 tyX6_ok nmX6 17 0 0 (by decide) (by decide) rfl rfl tw_fl_X6_74 rfl rfl rfl (Nat.le_of_ble_eq_true rfl) dX6_isBusy_14 ?_
    refine g_aload_n hB 0 dX6_isBusy_17 rfl rfl ?_
    refine g_get (ci := 6) (T := TX6) (N := 26) hB in_X6 rfl 17 0 0 (by decide) (by decide) rfl tw_fl_X6_74 rfl dX6_isBusy_18 ?_
    refine g_top ((nI 1)) rfl ?_
    refine g_if_ne hB 36 dX6_isBusy_21 (by decide) (fun _ => ?_) (fun z => absurd z (by decide))
    refine g_iconst hB (nI 0) dX6_isBusy_36 rfl ?_
    exact g_iret hB hr rfl (Nat.le_of_ble_eq_true rfl) (Nat.le_of_ble_eq_true rfl) (⟨by first | (simp only [rIsBusy, c_6, ij, cond_true, cond_false]; rfl) | (simp only [rIsBusy, c_6, cond_true, cond_false]; done), by first | (simp only [rIsBusy, c_6, ij, cond_true, cond_false]; done) | (simp only [rIsBusy, c_6, cond_true, cond_false]; done)⟩) dX6_isBusy_37
  · obtain ⟨j, hj, rfl⟩ := rgB_t c_6
    have ij := ix_nI (show j < 2 ^ 31 by omega)
    refine g_iconst hB (nI 0) dX6_isBusy_9 rfl ?_
    refine g_goto hB 14 dX6_isBusy_10 (by decide) ?_
    refine s_put (ci := 6) (T := TX6) (N := 26) hB in_X6 rfl tyX6 tyX6_ok nmX6 17 0 0 (by decide) (by decide) rfl rfl tw_fl_X6_74 rfl rfl rfl (Nat.le_of_ble_eq_true rfl) dX6_isBusy_14 ?_
    refine g_aload_n hB 0 dX6_isBusy_17 rfl rfl ?_
    refine g_get (ci := 6) (T := TX6) (N := 26) hB in_X6 rfl 17 0 0 (by decide) (by decide) rfl tw_fl_X6_74 rfl dX6_isBusy_18 ?_
    refine g_top ((nI 0)) rfl ?_
    refine g_if_ne hB 36 dX6_isBusy_21 (by decide) (fun z => absurd rfl z) (fun _ => ?_)
    refine g_aload_n hB 0 dX6_isBusy_24 rfl rfl ?_
    refine g_iload_n hB 1 dX6_isBusy_25 rfl rfl ?_
    refine g_callVI hB (c_X6_works _ j (by omega)) k_X6_135 rfl yk_X6_works ⟨Nat.le_of_ble_eq_true rfl, Nat.le_of_ble_eq_true rfl⟩ ⟨(by decide), _, _, _, rfl, rfl, rfl⟩ rfl (Nat.le_of_ble_eq_true rfl) ⟨Nat.le_of_ble_eq_true rfl, Nat.le_of_ble_eq_true rfl⟩ dX6_isBusy_26 ?_
    rintro _ _ ⟨rfl, rfl⟩
    refine b_if_eq hB (decide (S 17 0 1 < S 18 4 j)) 36 dX6_isBusy_29 (by decide) (fun c_29 => ?_) (fun c_29 => ?_)
    · refine g_iconst hB (nI 0) dX6_isBusy_36 rfl ?_
      exact g_iret hB hr rfl (Nat.le_of_ble_eq_true rfl) (Nat.le_of_ble_eq_true rfl) (⟨by first | (simp only [rIsBusy, c_6, c_29, ij, cond_true, cond_false]; rfl) | (simp only [rIsBusy, c_6, c_29, cond_true, cond_false]; done), by first | (simp only [rIsBusy, c_6, c_29, ij, cond_true, cond_false]; done) | (simp only [rIsBusy, c_6, c_29, cond_true, cond_false]; done)⟩) dX6_isBusy_37
    · refine g_iconst hB (nI 1) dX6_isBusy_32 rfl ?_
      refine g_goto hB 37 dX6_isBusy_33 (by decide) ?_
      exact g_iret hB hr rfl (Nat.le_of_ble_eq_true rfl) (Nat.le_of_ble_eq_true rfl) (⟨by first | (simp only [rIsBusy, c_6, c_29, ij, cond_true, cond_false]; rfl) | (simp only [rIsBusy, c_6, c_29, cond_true, cond_false]; done), by first | (simp only [rIsBusy, c_6, c_29, ij, cond_true, cond_false]; done) | (simp only [rIsBusy, c_6, c_29, cond_true, cond_false]; done)⟩) dX6_isBusy_37
theorem c_X6_isStopped (S : Mem) (x : Int32) (nm : Nat) (hm : S 17 0 6 = nI nm) (hnm : nm ≤ 12) (hT : TK S) : CI l yX6_isStopped cX6_isStopped 2 (some .boolean) { frames := 2, cells := 0, slots := 0, locals := 45 } D ad CNT ca SR (SH ad ca S) [.ref (ad 17 0), .int (x)] (PR ad ca (rIsStopped S x nm).1 (rIsStopped S x nm).2) := by
  refine CI.of _ RX6 (by decide +kernel) rfl (Nat.le_of_ble_eq_true rfl) ?_
  intro p9 e9 s9 m9 a9 b9 me9 c9 A9 hB hr hnm9
  refine g_aload_n hB 0 dX6_isStopped_0 rfl rfl ?_
  refine g_aload_n hB 0 dX6_isStopped_1 rfl rfl ?_
  refine g_iload_n hB 1 dX6_isStopped_2 rfl rfl ?_
  refine g_callVI hB (c_X6_isMachine _ _ nm hm hnm) k_X6_145 rfl yk_X6_isMachine ⟨Nat.le_of_ble_eq_true rfl, Nat.le_of_ble_eq_true rfl⟩ ⟨(by decide), _, _, _, rfl, rfl, rfl⟩ rfl (Nat.le_of_ble_eq_true rfl) ⟨Nat.le_of_ble_eq_true rfl, Nat.le_of_ble_eq_true rfl⟩ dX6_isStopped_3 ?_
  rintro _ _ ⟨rfl, rfl⟩
  refine b_if_eq hB (rgB x nm) 13 dX6_isStopped_6 (by decide) (fun c_6 => ?_) (fun c_6 => ?_)
  · refine g_iconst hB (nI 1) dX6_isStopped_13 rfl ?_
    refine s_put (ci := 6) (T := TX6) (N := 26) hB in_X6 rfl tyX6 tyX6_ok nmX6 17 0 0 (by decide) (by decide) rfl rfl tw_fl_X6_74 rfl rfl rfl (Nat.le_of_ble_eq_true rfl) dX6_isStopped_14 ?_
    refine g_aload_n hB 0 dX6_isStopped_17 rfl rfl ?_
    refine g_get (ci := 6) (T := TX6) (N := 26) hB in_X6 rfl 17 0 0 (by decide) (by decide) rfl tw_fl_X6_74 rfl dX6_isStopped_18 ?_
    refine g_top ((nI 1)) rfl ?_
    refine g_if_ne hB 36 dX6_isStopped_21 (by decide) (fun _ => ?_) (fun z => absurd z (by decide))
    refine g_iconst hB (nI 0) dX6_isStopped_36 rfl ?_
    exact g_iret hB hr rfl (Nat.le_of_ble_eq_true rfl) (Nat.le_of_ble_eq_true rfl) (⟨by first | (simp only [rIsStopped, c_6, ij, cond_true, cond_false]; rfl) | (simp only [rIsStopped, c_6, cond_true, cond_false]; done), by first | (simp only [rIsStopped, c_6, ij, cond_true, cond_false]; done) | (simp only [rIsStopped, c_6, cond_true, cond_false]; done)⟩) dX6_isStopped_37
  · obtain ⟨j, hj, rfl⟩ := rgB_t c_6
    have ij := ix_nI (show j < 2 ^ 31 by omega)
    refine g_iconst hB (nI 0) dX6_isStopped_9 rfl ?_
    refine g_goto hB 14 dX6_isStopped_10 (by decide) ?_
    refine s_put (ci := 6) (T := TX6) (N := 26) hB in_X6 rfl tyX6 tyX6_ok nmX6 17 0 0 (by decide) (by decide) rfl rfl tw_fl_X6_74 rfl rfl rfl (Nat.le_of_ble_eq_true rfl) dX6_isStopped_14 ?_
    refine g_aload_n hB 0 dX6_isStopped_17 rfl rfl ?_
    refine g_get (ci := 6) (T := TX6) (N := 26) hB in_X6 rfl 17 0 0 (by decide) (by decide) rfl tw_fl_X6_74 rfl dX6_isStopped_18 ?_
    refine g_top ((nI 0)) rfl ?_
    refine g_if_ne hB 36 dX6_isStopped_21 (by decide) (fun z => absurd rfl z) (fun _ => ?_)
    refine g_aload_n hB 0 dX6_isStopped_24 rfl rfl ?_
    refine g_iload_n hB 1 dX6_isStopped_25 rfl rfl ?_
    refine g_callVI hB (c_X6_isHalted _ j (by omega) hT) k_X6_118 rfl yk_X6_isHalted ⟨Nat.le_of_ble_eq_true rfl, Nat.le_of_ble_eq_true rfl⟩ ⟨(by decide), _, _, _, rfl, rfl, rfl⟩ rfl (Nat.le_of_ble_eq_true rfl) ⟨Nat.le_of_ble_eq_true rfl, Nat.le_of_ble_eq_true rfl⟩ dX6_isStopped_26 ?_
    rintro _ _ ⟨rfl, rfl⟩
    refine b_if_eq hB (mHalt S j) 36 dX6_isStopped_29 (by decide) (fun c_29 => ?_) (fun c_29 => ?_)
    · refine g_iconst hB (nI 0) dX6_isStopped_36 rfl ?_
      exact g_iret hB hr rfl (Nat.le_of_ble_eq_true rfl) (Nat.le_of_ble_eq_true rfl) (⟨by first | (simp only [rIsStopped, c_6, c_29, ij, cond_true, cond_false]; rfl) | (simp only [rIsStopped, c_6, c_29, cond_true, cond_false]; done), by first | (simp only [rIsStopped, c_6, c_29, ij, cond_true, cond_false]; done) | (simp only [rIsStopped, c_6, c_29, cond_true, cond_false]; done)⟩) dX6_isStopped_37
    · refine g_iconst hB (nI 1) dX6_isStopped_32 rfl ?_
      refine g_goto hB 37 dX6_isStopped_33 (by decide) ?_
      exact g_iret hB hr rfl (Nat.le_of_ble_eq_true rfl) (Nat.le_of_ble_eq_true rfl) (⟨by first | (simp only [rIsStopped, c_6, c_29, ij, cond_true, cond_false]; rfl) | (simp only [rIsStopped, c_6, c_29, cond_true, cond_false]; done), by first | (simp only [rIsStopped, c_6, c_29, ij, cond_true, cond_false]; done) | (simp only [rIsStopped, c_6, c_29, cond_true, cond_false]; done)⟩) dX6_isStopped_37
theorem c_X6_propose (S : Mem) (p x k w : Int32) (ng nm nc : Nat) (hg : S 17 0 4 = nI ng) (hng : ng ≤ 10) (hm : S 17 0 6 = nI nm) (hnm : nm ≤ 12) (hc : S 17 0 11 = nI nc) (hnc : nc ≤ 40) : CI l yX6_propose cX6_propose 5 (some .int) { frames := 3, cells := 0, slots := 0, locals := 64 } D ad CNT ca SR (SH ad ca S) [.ref (ad 17 0), .int (p), .int (x), .int (k), .int (w)] (PR ad ca (rPropose (uM S 17 0 0 (nI 0)) p x k w ng nm nc).1 (rPropose (uM S 17 0 0 (nI 0)) p x k w ng nm nc).2) := by
  refine CI.of _ RX6 (by decide +kernel) rfl (Nat.le_of_ble_eq_true rfl) ?_
  intro p9 e9 s9 m9 a9 b9 me9 c9 A9 hB hr hnm9
  refine g_aload_n hB 0 dX6_propose_0 rfl rfl ?_
  refine g_iconst hB (nI 0) dX6_propose_1 rfl ?_
  refine s_put (ci := 6) (T := TX6) (N := 26) hB in_X6 rfl tyX6 tyX6_ok nmX6 17 0 0 (by decide) (by decide) rfl rfl tw_fl_X6_74 rfl rfl rfl (Nat.le_of_ble_eq_true rfl) dX6_propose_2 ?_
  refine g_iload_n hB 1 dX6_propose_5 rfl rfl ?_
  refine g_callSI hB (c_X6_isPerson _ _) k_X6_121 yk_X6_isPerson ⟨Nat.le_of_ble_eq_true rfl, Nat.le_of_ble_eq_true rfl⟩ rfl (Nat.le_of_ble_eq_true rfl) ⟨Nat.le_of_ble_eq_true rfl, Nat.le_of_ble_eq_true rfl⟩ dX6_propose_6 ?_
  rintro _ _ ⟨rfl, rfl⟩
  refine b_if_eq hB (rgB p 8) 27 dX6_propose_9 (by decide) (fun c_9 => ?_) (fun c_9 => ?_)
  · refine g_aload_n hB 0 dX6_propose_27 rfl rfl ?_
    refine g_iconst hB (nI 1) dX6_propose_28 rfl ?_
    refine g_callVI hB (c_X6_fails _ _) k_X6_112 rfl yk_X6_fails ⟨Nat.le_of_ble_eq_true rfl, Nat.le_of_ble_eq_true rfl⟩ ⟨(by decide), _, _, _, rfl, rfl, rfl⟩ rfl (Nat.le_of_ble_eq_true rfl) ⟨Nat.le_of_ble_eq_true rfl, Nat.le_of_ble_eq_true rfl⟩ dX6_propose_29 ?_
    rintro _ _ ⟨rfl, rfl⟩
    exact g_iret hB hr rfl (Nat.le_of_ble_eq_true rfl) (Nat.le_of_ble_eq_true rfl) (⟨by first | (simp only [rPropose, fl, c_9, ij, decide_true, decide_false, cond_true, cond_false]; done) | (simp only [rPropose, fl, c_9, cond_true, cond_false]; done), by first | (simp only [rPropose, fl, c_9, ij, decide_true, decide_false, cond_true, cond_false]; done) | (simp only [rPropose, fl, c_9, cond_true, cond_false]; done) | (simp only [rPropose, fl, c_9, ij, decide_true, decide_false, cond_true, cond_false]; rfl)⟩) dX6_propose_32
  · obtain ⟨j, hj, rfl⟩ := rgB_t c_9
    have ij := ix_nI (show j < 2 ^ 31 by omega)
    refine g_aload_n hB 0 dX6_propose_12 rfl rfl ?_
    refine g_iload_n hB 2 dX6_propose_13 rfl rfl ?_
    refine g_callVI hB (c_X6_isPlace _ _ ng nm hg hng hm hnm) k_X6_151 rfl yk_X6_isPlace ⟨Nat.le_of_ble_eq_true rfl, Nat.le_of_ble_eq_true rfl⟩ ⟨(by decide), _, _, _, rfl, rfl, rfl⟩ rfl (Nat.le_of_ble_eq_true rfl) ⟨Nat.le_of_ble_eq_true rfl, Nat.le_of_ble_eq_true rfl⟩ dX6_propose_14 ?_
    rintro _ _ ⟨rfl, rfl⟩
    refine b_if_eq hB (plB x ng nm) 27 dX6_propose_17 (by decide) (fun c_17 => ?_) (fun c_17 => ?_)
    · refine g_aload_n hB 0 dX6_propose_27 rfl rfl ?_
      refine g_iconst hB (nI 1) dX6_propose_28 rfl ?_
      refine g_callVI hB (c_X6_fails _ _) k_X6_112 rfl yk_X6_fails ⟨Nat.le_of_ble_eq_true rfl, Nat.le_of_ble_eq_true rfl⟩ ⟨(by decide), _, _, _, rfl, rfl, rfl⟩ rfl (Nat.le_of_ble_eq_true rfl) ⟨Nat.le_of_ble_eq_true rfl, Nat.le_of_ble_eq_true rfl⟩ dX6_propose_29 ?_
      rintro _ _ ⟨rfl, rfl⟩
      exact g_iret hB hr rfl (Nat.le_of_ble_eq_true rfl) (Nat.le_of_ble_eq_true rfl) (⟨by first | (simp only [rPropose, fl, c_9, c_17, ij, decide_true, decide_false, cond_true, cond_false]; done) | (simp only [rPropose, fl, c_9, c_17, cond_true, cond_false]; done), by first | (simp only [rPropose, fl, c_9, c_17, ij, decide_true, decide_false, cond_true, cond_false]; done) | (simp only [rPropose, fl, c_9, c_17, cond_true, cond_false]; done) | (simp only [rPropose, fl, c_9, c_17, ij, decide_true, decide_false, cond_true, cond_false]; rfl)⟩) dX6_propose_32
    · refine g_iload_n hB 3 dX6_propose_20 rfl rfl ?_
      refine g_callSI hB (c_X6_isKey _ _) k_X6_154 yk_X6_isKey ⟨Nat.le_of_ble_eq_true rfl, Nat.le_of_ble_eq_true rfl⟩ rfl (Nat.le_of_ble_eq_true rfl) ⟨Nat.le_of_ble_eq_true rfl, Nat.le_of_ble_eq_true rfl⟩ dX6_propose_21 ?_
      rintro _ _ ⟨rfl, rfl⟩
      refine b_if_ne hB (rgB k 6) 33 dX6_propose_24 (by decide) (fun c_24 => ?_) (fun c_24 => ?_)
      · refine g_iload hB 4 dX6_propose_33 rfl ?_
        refine g_iconst hB (nI 0) dX6_propose_35 rfl ?_
        refine g_bipush hB (nI 101) dX6_propose_36 rfl ?_
        refine g_callSI hB (c_X6_in _ _ _ _) k_X6_77 yk_X6_in ⟨Nat.le_of_ble_eq_true rfl, Nat.le_of_ble_eq_true rfl⟩ rfl (Nat.le_of_ble_eq_true rfl) ⟨Nat.le_of_ble_eq_true rfl, Nat.le_of_ble_eq_true rfl⟩ dX6_propose_38 ?_
        rintro _ _ ⟨rfl, rfl⟩
        refine b_if_ne hB (inR w (nI 0) (nI 101)) 50 dX6_propose_41 (by decide) (fun c_41 => ?_) (fun c_41 => ?_)
        · refine g_aload_n hB 0 dX6_propose_50 rfl rfl ?_
          refine g_get (ci := 6) (T := TX6) (N := 26) hB in_X6 rfl 17 0 3 (by decide) (by decide) rfl tw_fl_X6_13 rfl dX6_propose_51 ?_
          refine g_iload_n hB 1 dX6_propose_54 rfl rfl ?_
          refine g_iald hB 18 1 j (n := 8) (by decide) rfl (by first | assumption | omega) (Nat.le_of_ble_eq_true rfl) dX6_propose_55 ?_
          refine g_if_gt hB 68 dX6_propose_56 (by decide) (fun c_56 => ?_) (fun c_56 => ?_)
          · refine g_aload_n hB 0 dX6_propose_68 rfl rfl ?_
            refine g_iconst hB (nI 3) dX6_propose_69 rfl ?_
            refine g_callVI hB (c_X6_fails _ _) k_X6_112 rfl yk_X6_fails ⟨Nat.le_of_ble_eq_true rfl, Nat.le_of_ble_eq_true rfl⟩ ⟨(by decide), _, _, _, rfl, rfl, rfl⟩ rfl (Nat.le_of_ble_eq_true rfl) ⟨Nat.le_of_ble_eq_true rfl, Nat.le_of_ble_eq_true rfl⟩ dX6_propose_70 ?_
            rintro _ _ ⟨rfl, rfl⟩
            exact g_iret hB hr rfl (Nat.le_of_ble_eq_true rfl) (Nat.le_of_ble_eq_true rfl) (⟨by first | (simp only [rPropose, fl, c_9, c_17, c_24, c_41, c_56, ij, decide_true, decide_false, cond_true, cond_false]; done) | (simp only [rPropose, fl, c_9, c_17, c_24, c_41, c_56, cond_true, cond_false]; done), by first | (simp only [rPropose, fl, c_9, c_17, c_24, c_41, c_56, ij, decide_true, decide_false, cond_true, cond_false]; done) | (simp only [rPropose, fl, c_9, c_17, c_24, c_41, c_56, cond_true, cond_false]; done) | (simp only [rPropose, fl, c_9, c_17, c_24, c_41, c_56, ij, decide_true, decide_false, cond_true, cond_false]; rfl)⟩) dX6_propose_73
          · refine g_aload_n hB 0 dX6_propose_59 rfl rfl ?_
            refine g_get (ci := 6) (T := TX6) (N := 26) hB in_X6 rfl 17 0 11 (by decide) (by decide) rfl tw_fl_X6_84 rfl dX6_propose_60 ?_
            refine g_top (nI nc) (hc) ?_
            refine g_bipush hB (nI 40) dX6_propose_63 rfl ?_
            refine n_icmp_ne hB nc 40 74 dX6_propose_65 (by decide) (by omega) (by omega) (fun c_65 => ?_) (fun c_65 => ?_)
            · have d_65 : decide (nc = 40) = false := decide_eq_false c_65
              have hlt : nc < 40 := by omega
              refine g_aload_n hB 0 dX6_propose_74 rfl rfl ?_
              refine g_get (ci := 6) (T := TX6) (N := 26) hB in_X6 rfl 17 0 13 (by decide) (by decide) rfl tw_fl_X6_35 rfl dX6_propose_75 ?_
              refine g_aload_n hB 0 dX6_propose_78 rfl rfl ?_
              refine g_get (ci := 6) (T := TX6) (N := 26) hB in_X6 rfl 17 0 11 (by decide) (by decide) rfl tw_fl_X6_84 rfl dX6_propose_79 ?_
              refine g_top (nI nc) (hc) ?_
              refine g_iload_n hB 1 dX6_propose_82 rfl rfl ?_
              refine s_iast hB 18 6 nc (n := 40) (by decide) (fun _ => rfl) (by first | assumption | omega) (Nat.le_of_ble_eq_true rfl) dX6_propose_83 ?_
              refine g_aload_n hB 0 dX6_propose_84 rfl rfl ?_
              refine g_get (ci := 6) (T := TX6) (N := 26) hB in_X6 rfl 17 0 14 (by decide) (by decide) rfl tw_fl_X6_38 rfl dX6_propose_85 ?_
              refine g_aload_n hB 0 dX6_propose_88 rfl rfl ?_
              refine g_get (ci := 6) (T := TX6) (N := 26) hB in_X6 rfl 17 0 11 (by decide) (by decide) rfl tw_fl_X6_84 rfl dX6_propose_89 ?_
              refine g_top (nI nc) (hc) ?_
              refine g_iload_n hB 2 dX6_propose_92 rfl rfl ?_
              refine s_iast hB 18 7 nc (n := 40) (by decide) (fun _ => rfl) (by first | assumption | omega) (Nat.le_of_ble_eq_true rfl) dX6_propose_93 ?_
              refine g_aload_n hB 0 dX6_propose_94 rfl rfl ?_
              refine g_get (ci := 6) (T := TX6) (N := 26) hB in_X6 rfl 17 0 15 (by decide) (by decide) rfl tw_fl_X6_41 rfl dX6_propose_95 ?_
              refine g_aload_n hB 0 dX6_propose_98 rfl rfl ?_
              refine g_get (ci := 6) (T := TX6) (N := 26) hB in_X6 rfl 17 0 11 (by decide) (by decide) rfl tw_fl_X6_84 rfl dX6_propose_99 ?_
              refine g_top (nI nc) (hc) ?_
              refine g_iload_n hB 3 dX6_propose_102 rfl rfl ?_
              refine s_iast hB 18 8 nc (n := 40) (by decide) (fun _ => rfl) (by first | assumption | omega) (Nat.le_of_ble_eq_true rfl) dX6_propose_103 ?_
              refine g_aload_n hB 0 dX6_propose_104 rfl rfl ?_
              refine g_get (ci := 6) (T := TX6) (N := 26) hB in_X6 rfl 17 0 16 (by decide) (by decide) rfl tw_fl_X6_44 rfl dX6_propose_105 ?_
              refine g_aload_n hB 0 dX6_propose_108 rfl rfl ?_
              refine g_get (ci := 6) (T := TX6) (N := 26) hB in_X6 rfl 17 0 11 (by decide) (by decide) rfl tw_fl_X6_84 rfl dX6_propose_109 ?_
              refine g_top (nI nc) (hc) ?_
              refine g_aload_n hB 0 dX6_propose_112 rfl rfl ?_
              refine g_get (ci := 6) (T := TX6) (N := 26) hB in_X6 rfl 17 0 1 (by decide) (by decide) rfl tw_fl_X6_109 rfl dX6_propose_113 ?_
              refine s_iast hB 18 9 nc (n := 40) (by decide) (fun _ => rfl) (by first | assumption | omega) (Nat.le_of_ble_eq_true rfl) dX6_propose_116 ?_
              refine g_aload_n hB 0 dX6_propose_117 rfl rfl ?_
              refine g_get (ci := 6) (T := TX6) (N := 26) hB in_X6 rfl 17 0 17 (by decide) (by decide) rfl tw_fl_X6_47 rfl dX6_propose_118 ?_
              refine g_aload_n hB 0 dX6_propose_121 rfl rfl ?_
              refine g_get (ci := 6) (T := TX6) (N := 26) hB in_X6 rfl 17 0 11 (by decide) (by decide) rfl tw_fl_X6_84 rfl dX6_propose_122 ?_
              refine g_top (nI nc) (hc) ?_
              refine g_iload hB 4 dX6_propose_125 rfl ?_
              refine s_iast hB 18 10 nc (n := 40) (by decide) (fun _ => rfl) (by first | assumption | omega) (Nat.le_of_ble_eq_true rfl) dX6_propose_127 ?_
              refine g_aload_n hB 0 dX6_propose_128 rfl rfl ?_
              refine g_get (ci := 6) (T := TX6) (N := 26) hB in_X6 rfl 17 0 19 (by decide) (by decide) rfl tw_fl_X6_53 rfl dX6_propose_129 ?_
              refine g_aload_n hB 0 dX6_propose_132 rfl rfl ?_
              refine g_get (ci := 6) (T := TX6) (N := 26) hB in_X6 rfl 17 0 11 (by decide) (by decide) rfl tw_fl_X6_84 rfl dX6_propose_133 ?_
              refine g_top (nI nc) (hc) ?_
              refine g_iconst hB (-1) dX6_propose_136 rfl ?_
              refine s_iast hB 18 12 nc (n := 40) (by decide) (fun _ => rfl) (by first | assumption | omega) (Nat.le_of_ble_eq_true rfl) dX6_propose_137 ?_
              refine g_aload_n hB 0 dX6_propose_138 rfl rfl ?_
              refine g_dup hB rfl dX6_propose_139 ?_
              refine g_get (ci := 6) (T := TX6) (N := 26) hB in_X6 rfl 17 0 11 (by decide) (by decide) rfl tw_fl_X6_84 rfl dX6_propose_140 ?_
              refine g_top (nI nc) (hc) ?_
              refine g_iconst hB (nI 1) dX6_propose_143 rfl ?_
              refine g_iadd hB dX6_propose_144 ?_
              refine g_top (nI (nc + 1)) (nI_add _ _) ?_
              refine s_put (ci := 6) (T := TX6) (N := 26) hB in_X6 rfl tyX6 tyX6_ok nmX6 17 0 11 (by decide) (by decide) rfl rfl tw_fl_X6_84 rfl rfl rfl (Nat.le_of_ble_eq_true rfl) dX6_propose_145 ?_
              refine g_aload_n hB 0 dX6_propose_148 rfl rfl ?_
              refine g_get (ci := 6) (T := TX6) (N := 26) hB in_X6 rfl 17 0 11 (by decide) (by decide) rfl tw_fl_X6_84 rfl dX6_propose_149 ?_
              refine g_top ((nI (nc + 1))) rfl ?_
              refine g_iconst hB (nI 1) dX6_propose_152 rfl ?_
              refine g_isub hB dX6_propose_153 ?_
              refine g_top (nI (nc)) (pk_sub (by omega)) ?_
              exact g_iret hB hr rfl (Nat.le_of_ble_eq_true rfl) (Nat.le_of_ble_eq_true rfl) (⟨by first | (simp only [rPropose, fl, c_9, c_17, c_24, c_41, c_56, d_65, ij, decide_true, decide_false, cond_true, cond_false]; done) | (simp only [rPropose, fl, c_9, c_17, c_24, c_41, c_56, d_65, cond_true, cond_false]; done), by first | (simp only [rPropose, fl, c_9, c_17, c_24, c_41, c_56, d_65, ij, decide_true, decide_false, cond_true, cond_false]; done) | (simp only [rPropose, fl, c_9, c_17, c_24, c_41, c_56, d_65, cond_true, cond_false]; done) | (simp only [rPropose, fl, c_9, c_17, c_24, c_41, c_56, d_65, ij, decide_true, decide_false, cond_true, cond_false]; rfl)⟩) dX6_propose_154
            · have d_65 : decide (nc = 40) = true := decide_eq_true c_65
              refine g_aload_n hB 0 dX6_propose_68 rfl rfl ?_
              refine g_iconst hB (nI 3) dX6_propose_69 rfl ?_
              refine g_callVI hB (c_X6_fails _ _) k_X6_112 rfl yk_X6_fails ⟨Nat.le_of_ble_eq_true rfl, Nat.le_of_ble_eq_true rfl⟩ ⟨(by decide), _, _, _, rfl, rfl, rfl⟩ rfl (Nat.le_of_ble_eq_true rfl) ⟨Nat.le_of_ble_eq_true rfl, Nat.le_of_ble_eq_true rfl⟩ dX6_propose_70 ?_
              rintro _ _ ⟨rfl, rfl⟩
              exact g_iret hB hr rfl (Nat.le_of_ble_eq_true rfl) (Nat.le_of_ble_eq_true rfl) (⟨by first | (simp only [rPropose, fl, c_9, c_17, c_24, c_41, c_56, d_65, ij, decide_true, decide_false, cond_true, cond_false]; done) | (simp only [rPropose, fl, c_9, c_17, c_24, c_41, c_56, d_65, cond_true, cond_false]; done), by first | (simp only [rPropose, fl, c_9, c_17, c_24, c_41, c_56, d_65, ij, decide_true, decide_false, cond_true, cond_false]; done) | (simp only [rPropose, fl, c_9, c_17, c_24, c_41, c_56, d_65, cond_true, cond_false]; done) | (simp only [rPropose, fl, c_9, c_17, c_24, c_41, c_56, d_65, ij, decide_true, decide_false, cond_true, cond_false]; rfl)⟩) dX6_propose_73
        · refine g_aload_n hB 0 dX6_propose_44 rfl rfl ?_
          refine g_iconst hB (nI 2) dX6_propose_45 rfl ?_
          refine g_callVI hB (c_X6_fails _ _) k_X6_112 rfl yk_X6_fails ⟨Nat.le_of_ble_eq_true rfl, Nat.le_of_ble_eq_true rfl⟩ ⟨(by decide), _, _, _, rfl, rfl, rfl⟩ rfl (Nat.le_of_ble_eq_true rfl) ⟨Nat.le_of_ble_eq_true rfl, Nat.le_of_ble_eq_true rfl⟩ dX6_propose_46 ?_
          rintro _ _ ⟨rfl, rfl⟩
          exact g_iret hB hr rfl (Nat.le_of_ble_eq_true rfl) (Nat.le_of_ble_eq_true rfl) (⟨by first | (simp only [rPropose, fl, c_9, c_17, c_24, c_41, ij, decide_true, decide_false, cond_true, cond_false]; done) | (simp only [rPropose, fl, c_9, c_17, c_24, c_41, cond_true, cond_false]; done), by first | (simp only [rPropose, fl, c_9, c_17, c_24, c_41, ij, decide_true, decide_false, cond_true, cond_false]; done) | (simp only [rPropose, fl, c_9, c_17, c_24, c_41, cond_true, cond_false]; done) | (simp only [rPropose, fl, c_9, c_17, c_24, c_41, ij, decide_true, decide_false, cond_true, cond_false]; rfl)⟩) dX6_propose_49
      · refine g_aload_n hB 0 dX6_propose_27 rfl rfl ?_
        refine g_iconst hB (nI 1) dX6_propose_28 rfl ?_
        refine g_callVI hB (c_X6_fails _ _) k_X6_112 rfl yk_X6_fails ⟨Nat.le_of_ble_eq_true rfl, Nat.le_of_ble_eq_true rfl⟩ ⟨(by decide), _, _, _, rfl, rfl, rfl⟩ rfl (Nat.le_of_ble_eq_true rfl) ⟨Nat.le_of_ble_eq_true rfl, Nat.le_of_ble_eq_true rfl⟩ dX6_propose_29 ?_
        rintro _ _ ⟨rfl, rfl⟩
        exact g_iret hB hr rfl (Nat.le_of_ble_eq_true rfl) (Nat.le_of_ble_eq_true rfl) (⟨by first | (simp only [rPropose, fl, c_9, c_17, c_24, ij, decide_true, decide_false, cond_true, cond_false]; done) | (simp only [rPropose, fl, c_9, c_17, c_24, cond_true, cond_false]; done), by first | (simp only [rPropose, fl, c_9, c_17, c_24, ij, decide_true, decide_false, cond_true, cond_false]; done) | (simp only [rPropose, fl, c_9, c_17, c_24, cond_true, cond_false]; done) | (simp only [rPropose, fl, c_9, c_17, c_24, ij, decide_true, decide_false, cond_true, cond_false]; rfl)⟩) dX6_propose_32
theorem c_X6_withdraw (S : Mem) (x : Int32) (nc : Nat) (hc : S 17 0 11 = nI nc) (hnc : nc ≤ 40) : CV l yX6_withdraw cX6_withdraw 2 none { frames := 2, cells := 0, slots := 0, locals := 43 } D ad CNT ca SR (SH ad ca S) [.ref (ad 17 0), .int (x)] (PM ad ca (rWithdraw S x nc)) := by
  refine CV.of _ RX6 (by decide +kernel) rfl (Nat.le_of_ble_eq_true rfl) ?_
  intro p9 e9 s9 m9 a9 b9 me9 c9 A9 hB hr hnm9
  refine g_aload_n hB 0 dX6_withdraw_0 rfl rfl ?_
  refine g_aload_n hB 0 dX6_withdraw_1 rfl rfl ?_
  refine g_iload_n hB 1 dX6_withdraw_2 rfl rfl ?_
  refine g_callVI hB (c_X6_isChange _ _ nc hc hnc) k_X6_157 rfl yk_X6_isChange ⟨Nat.le_of_ble_eq_true rfl, Nat.le_of_ble_eq_true rfl⟩ ⟨(by decide), _, _, _, rfl, rfl, rfl⟩ rfl (Nat.le_of_ble_eq_true rfl) ⟨Nat.le_of_ble_eq_true rfl, Nat.le_of_ble_eq_true rfl⟩ dX6_withdraw_3 ?_
  rintro _ _ ⟨rfl, rfl⟩
  refine b_if_ne hB (rgB x nc) 13 dX6_withdraw_6 (by decide) (fun c_6 => ?_) (fun c_6 => ?_)
  · obtain ⟨j, hj, rfl⟩ := rgB_t c_6
    have ij := ix_nI (show j < 2 ^ 31 by omega)
    refine g_aload_n hB 0 dX6_withdraw_13 rfl rfl ?_
    refine g_get (ci := 6) (T := TX6) (N := 26) hB in_X6 rfl 17 0 18 (by decide) (by decide) rfl tw_fl_X6_50 rfl dX6_withdraw_14 ?_
    refine g_iload_n hB 1 dX6_withdraw_17 rfl rfl ?_
    refine g_iald hB 18 11 j (n := 40) (by decide) rfl (by first | assumption | omega) (Nat.le_of_ble_eq_true rfl) dX6_withdraw_18 ?_
    refine g_if_eq hB 26 dX6_withdraw_19 (by decide) (fun c_19 => ?_) (fun c_19 => ?_)
    · refine g_iconst hB (nI 0) dX6_withdraw_26 rfl ?_
      refine s_put (ci := 6) (T := TX6) (N := 26) hB in_X6 rfl tyX6 tyX6_ok nmX6 17 0 0 (by decide) (by decide) rfl rfl tw_fl_X6_74 rfl rfl rfl (Nat.le_of_ble_eq_true rfl) dX6_withdraw_27 ?_
      refine g_aload_n hB 0 dX6_withdraw_30 rfl rfl ?_
      refine g_get (ci := 6) (T := TX6) (N := 26) hB in_X6 rfl 17 0 0 (by decide) (by decide) rfl tw_fl_X6_74 rfl dX6_withdraw_31 ?_
      refine g_top ((nI 0)) rfl ?_
      refine g_if_ne hB 44 dX6_withdraw_34 (by decide) (fun z => absurd rfl z) (fun _ => ?_)
      refine g_aload_n hB 0 dX6_withdraw_37 rfl rfl ?_
      refine g_get (ci := 6) (T := TX6) (N := 26) hB in_X6 rfl 17 0 18 (by decide) (by decide) rfl tw_fl_X6_50 rfl dX6_withdraw_38 ?_
      refine g_iload_n hB 1 dX6_withdraw_41 rfl rfl ?_
      refine g_iconst hB (nI 3) dX6_withdraw_42 rfl ?_
      refine s_iast hB 18 11 j (n := 40) (by decide) (fun _ => rfl) (by first | assumption | omega) (Nat.le_of_ble_eq_true rfl) dX6_withdraw_43 ?_
      exact g_vret hB hr (Nat.le_of_ble_eq_true rfl) (Nat.le_of_ble_eq_true rfl) (by first | (show _ = _; simp only [rWithdraw, c_6, c_19, ij, decide_true, decide_false, cond_true, cond_false]) | (show _ = _; simp only [rWithdraw, c_6, c_19, cond_true, cond_false])) dX6_withdraw_44
    · refine g_iconst hB (nI 2) dX6_withdraw_22 rfl ?_
      refine g_goto hB 27 dX6_withdraw_23 (by decide) ?_
      refine s_put (ci := 6) (T := TX6) (N := 26) hB in_X6 rfl tyX6 tyX6_ok nmX6 17 0 0 (by decide) (by decide) rfl rfl tw_fl_X6_74 rfl rfl rfl (Nat.le_of_ble_eq_true rfl) dX6_withdraw_27 ?_
      refine g_aload_n hB 0 dX6_withdraw_30 rfl rfl ?_
      refine g_get (ci := 6) (T := TX6) (N := 26) hB in_X6 rfl 17 0 0 (by decide) (by decide) rfl tw_fl_X6_74 rfl dX6_withdraw_31 ?_
      refine g_top ((nI 2)) rfl ?_
      refine g_if_ne hB 44 dX6_withdraw_34 (by decide) (fun _ => ?_) (fun z => absurd z (by decide))
      exact g_vret hB hr (Nat.le_of_ble_eq_true rfl) (Nat.le_of_ble_eq_true rfl) (by first | (show _ = _; simp only [rWithdraw, c_6, c_19, ij, decide_true, decide_false, cond_true, cond_false]) | (show _ = _; simp only [rWithdraw, c_6, c_19, cond_true, cond_false])) dX6_withdraw_44
  · refine g_iconst hB (nI 1) dX6_withdraw_9 rfl ?_
    refine g_goto hB 27 dX6_withdraw_10 (by decide) ?_
    refine s_put (ci := 6) (T := TX6) (N := 26) hB in_X6 rfl tyX6 tyX6_ok nmX6 17 0 0 (by decide) (by decide) rfl rfl tw_fl_X6_74 rfl rfl rfl (Nat.le_of_ble_eq_true rfl) dX6_withdraw_27 ?_
    refine g_aload_n hB 0 dX6_withdraw_30 rfl rfl ?_
    refine g_get (ci := 6) (T := TX6) (N := 26) hB in_X6 rfl 17 0 0 (by decide) (by decide) rfl tw_fl_X6_74 rfl dX6_withdraw_31 ?_
    refine g_top ((nI 1)) rfl ?_
    refine g_if_ne hB 44 dX6_withdraw_34 (by decide) (fun _ => ?_) (fun z => absurd z (by decide))
    exact g_vret hB hr (Nat.le_of_ble_eq_true rfl) (Nat.le_of_ble_eq_true rfl) (by first | (show _ = _; simp only [rWithdraw, c_6, ij, decide_true, decide_false, cond_true, cond_false]) | (show _ = _; simp only [rWithdraw, c_6, cond_true, cond_false])) dX6_withdraw_44

theorem c_X6_state (S : Mem) (x : Int32) (nc : Nat) (hc : S 17 0 11 = nI nc) (hnc : nc ≤ 40) : CI l yX6_state cX6_state 2 (some .int) { frames := 2, cells := 0, slots := 0, locals := 43 } D ad CNT ca SR (SH ad ca S) [.ref (ad 17 0), .int (x)] (PR ad ca (rAt (uM S 17 0 0 (nI 0)) 11 x nc).1 (rAt (uM S 17 0 0 (nI 0)) 11 x nc).2) := by
  refine CI.of _ RX6 (by decide +kernel) rfl (Nat.le_of_ble_eq_true rfl) ?_
  intro p9 e9 s9 m9 a9 b9 me9 c9 A9 hB hr hnm9
  refine g_aload_n hB 0 dX6_state_0 rfl rfl ?_
  refine g_iconst hB (nI 0) dX6_state_1 rfl ?_
  refine s_put (ci := 6) (T := TX6) (N := 26) hB in_X6 rfl tyX6 tyX6_ok nmX6 17 0 0 (by decide) (by decide) rfl rfl tw_fl_X6_74 rfl rfl rfl (Nat.le_of_ble_eq_true rfl) dX6_state_2 ?_
  refine g_aload_n hB 0 dX6_state_5 rfl rfl ?_
  refine g_iload_n hB 1 dX6_state_6 rfl rfl ?_
  refine g_callVI hB (c_X6_isChange _ _ nc hc hnc) k_X6_157 rfl yk_X6_isChange ⟨Nat.le_of_ble_eq_true rfl, Nat.le_of_ble_eq_true rfl⟩ ⟨(by decide), _, _, _, rfl, rfl, rfl⟩ rfl (Nat.le_of_ble_eq_true rfl) ⟨Nat.le_of_ble_eq_true rfl, Nat.le_of_ble_eq_true rfl⟩ dX6_state_7 ?_
  rintro _ _ ⟨rfl, rfl⟩
  refine b_if_eq hB (rgB x nc) 22 dX6_state_10 (by decide) (fun c_10 => ?_) (fun c_10 => ?_)
  · refine g_aload_n hB 0 dX6_state_22 rfl rfl ?_
    refine g_iconst hB (nI 1) dX6_state_23 rfl ?_
    refine g_callVI hB (c_X6_fails _ _) k_X6_112 rfl yk_X6_fails ⟨Nat.le_of_ble_eq_true rfl, Nat.le_of_ble_eq_true rfl⟩ ⟨(by decide), _, _, _, rfl, rfl, rfl⟩ rfl (Nat.le_of_ble_eq_true rfl) ⟨Nat.le_of_ble_eq_true rfl, Nat.le_of_ble_eq_true rfl⟩ dX6_state_24 ?_
    rintro _ _ ⟨rfl, rfl⟩
    exact g_iret hB hr rfl (Nat.le_of_ble_eq_true rfl) (Nat.le_of_ble_eq_true rfl) (⟨by first | (simp only [rAt, fl, c_10, ij, cond_true, cond_false]; done) | (simp only [rAt, fl, c_10, cond_true, cond_false]; done), by first | (simp only [rAt, fl, c_10, ij, cond_true, cond_false]; done) | (simp only [rAt, fl, c_10, cond_true, cond_false]; done)⟩) dX6_state_27
  · obtain ⟨j, hj, rfl⟩ := rgB_t c_10
    have ij := ix_nI (show j < 2 ^ 31 by omega)
    refine g_aload_n hB 0 dX6_state_13 rfl rfl ?_
    refine g_get (ci := 6) (T := TX6) (N := 26) hB in_X6 rfl 17 0 18 (by decide) (by decide) rfl tw_fl_X6_50 rfl dX6_state_14 ?_
    refine g_iload_n hB 1 dX6_state_17 rfl rfl ?_
    refine g_iald hB 18 11 j (n := 40) (by decide) rfl (by first | assumption | omega) (Nat.le_of_ble_eq_true rfl) dX6_state_18 ?_
    refine g_goto hB 27 dX6_state_19 (by decide) ?_
    exact g_iret hB hr rfl (Nat.le_of_ble_eq_true rfl) (Nat.le_of_ble_eq_true rfl) (⟨by first | (simp only [rAt, fl, c_10, ij, cond_true, cond_false]; done) | (simp only [rAt, fl, c_10, cond_true, cond_false]; done), by first | (simp only [rAt, fl, c_10, ij, cond_true, cond_false]; done) | (simp only [rAt, fl, c_10, cond_true, cond_false]; done)⟩) dX6_state_27
theorem c_X6_rank (S : Mem) (x : Int32) (nc : Nat) (hc : S 17 0 11 = nI nc) (hnc : nc ≤ 40) : CI l yX6_rank cX6_rank 2 (some .int) { frames := 2, cells := 0, slots := 0, locals := 43 } D ad CNT ca SR (SH ad ca S) [.ref (ad 17 0), .int (x)] (PR ad ca (rAt (uM S 17 0 0 (nI 0)) 12 x nc).1 (rAt (uM S 17 0 0 (nI 0)) 12 x nc).2) := by
  refine CI.of _ RX6 (by decide +kernel) rfl (Nat.le_of_ble_eq_true rfl) ?_
  intro p9 e9 s9 m9 a9 b9 me9 c9 A9 hB hr hnm9
  refine g_aload_n hB 0 dX6_rank_0 rfl rfl ?_
  refine g_iconst hB (nI 0) dX6_rank_1 rfl ?_
  refine s_put (ci := 6) (T := TX6) (N := 26) hB in_X6 rfl tyX6 tyX6_ok nmX6 17 0 0 (by decide) (by decide) rfl rfl tw_fl_X6_74 rfl rfl rfl (Nat.le_of_ble_eq_true rfl) dX6_rank_2 ?_
  refine g_aload_n hB 0 dX6_rank_5 rfl rfl ?_
  refine g_iload_n hB 1 dX6_rank_6 rfl rfl ?_
  refine g_callVI hB (c_X6_isChange _ _ nc hc hnc) k_X6_157 rfl yk_X6_isChange ⟨Nat.le_of_ble_eq_true rfl, Nat.le_of_ble_eq_true rfl⟩ ⟨(by decide), _, _, _, rfl, rfl, rfl⟩ rfl (Nat.le_of_ble_eq_true rfl) ⟨Nat.le_of_ble_eq_true rfl, Nat.le_of_ble_eq_true rfl⟩ dX6_rank_7 ?_
  rintro _ _ ⟨rfl, rfl⟩
  refine b_if_eq hB (rgB x nc) 22 dX6_rank_10 (by decide) (fun c_10 => ?_) (fun c_10 => ?_)
  · refine g_aload_n hB 0 dX6_rank_22 rfl rfl ?_
    refine g_iconst hB (nI 1) dX6_rank_23 rfl ?_
    refine g_callVI hB (c_X6_fails _ _) k_X6_112 rfl yk_X6_fails ⟨Nat.le_of_ble_eq_true rfl, Nat.le_of_ble_eq_true rfl⟩ ⟨(by decide), _, _, _, rfl, rfl, rfl⟩ rfl (Nat.le_of_ble_eq_true rfl) ⟨Nat.le_of_ble_eq_true rfl, Nat.le_of_ble_eq_true rfl⟩ dX6_rank_24 ?_
    rintro _ _ ⟨rfl, rfl⟩
    exact g_iret hB hr rfl (Nat.le_of_ble_eq_true rfl) (Nat.le_of_ble_eq_true rfl) (⟨by first | (simp only [rAt, fl, c_10, ij, cond_true, cond_false]; done) | (simp only [rAt, fl, c_10, cond_true, cond_false]; done), by first | (simp only [rAt, fl, c_10, ij, cond_true, cond_false]; done) | (simp only [rAt, fl, c_10, cond_true, cond_false]; done)⟩) dX6_rank_27
  · obtain ⟨j, hj, rfl⟩ := rgB_t c_10
    have ij := ix_nI (show j < 2 ^ 31 by omega)
    refine g_aload_n hB 0 dX6_rank_13 rfl rfl ?_
    refine g_get (ci := 6) (T := TX6) (N := 26) hB in_X6 rfl 17 0 19 (by decide) (by decide) rfl tw_fl_X6_53 rfl dX6_rank_14 ?_
    refine g_iload_n hB 1 dX6_rank_17 rfl rfl ?_
    refine g_iald hB 18 12 j (n := 40) (by decide) rfl (by first | assumption | omega) (Nat.le_of_ble_eq_true rfl) dX6_rank_18 ?_
    refine g_goto hB 27 dX6_rank_19 (by decide) ?_
    exact g_iret hB hr rfl (Nat.le_of_ble_eq_true rfl) (Nat.le_of_ble_eq_true rfl) (⟨by first | (simp only [rAt, fl, c_10, ij, cond_true, cond_false]; done) | (simp only [rAt, fl, c_10, cond_true, cond_false]; done), by first | (simp only [rAt, fl, c_10, ij, cond_true, cond_false]; done) | (simp only [rAt, fl, c_10, cond_true, cond_false]; done)⟩) dX6_rank_27
theorem c_X6_approvals (S : Mem) (x : Int32) (nc : Nat) (hc : S 17 0 11 = nI nc) (hnc : nc ≤ 40) : CI l yX6_approvals cX6_approvals 2 (some .int) { frames := 2, cells := 0, slots := 0, locals := 43 } D ad CNT ca SR (SH ad ca S) [.ref (ad 17 0), .int (x)] (PR ad ca (rApprovals (uM S 17 0 0 (nI 0)) x nc).1 (rApprovals (uM S 17 0 0 (nI 0)) x nc).2) := by
  refine CI.of _ RX6 (by decide +kernel) rfl (Nat.le_of_ble_eq_true rfl) ?_
  intro p9 e9 s9 m9 a9 b9 me9 c9 A9 hB hr hnm9
  refine g_aload_n hB 0 dX6_approvals_0 rfl rfl ?_
  refine g_iconst hB (nI 0) dX6_approvals_1 rfl ?_
  refine s_put (ci := 6) (T := TX6) (N := 26) hB in_X6 rfl tyX6 tyX6_ok nmX6 17 0 0 (by decide) (by decide) rfl rfl tw_fl_X6_74 rfl rfl rfl (Nat.le_of_ble_eq_true rfl) dX6_approvals_2 ?_
  refine g_aload_n hB 0 dX6_approvals_5 rfl rfl ?_
  refine g_iload_n hB 1 dX6_approvals_6 rfl rfl ?_
  refine g_callVI hB (c_X6_isChange _ _ nc hc hnc) k_X6_157 rfl yk_X6_isChange ⟨Nat.le_of_ble_eq_true rfl, Nat.le_of_ble_eq_true rfl⟩ ⟨(by decide), _, _, _, rfl, rfl, rfl⟩ rfl (Nat.le_of_ble_eq_true rfl) ⟨Nat.le_of_ble_eq_true rfl, Nat.le_of_ble_eq_true rfl⟩ dX6_approvals_7 ?_
  rintro _ _ ⟨rfl, rfl⟩
  refine b_if_eq hB (rgB x nc) 21 dX6_approvals_10 (by decide) (fun c_10 => ?_) (fun c_10 => ?_)
  · refine g_aload_n hB 0 dX6_approvals_21 rfl rfl ?_
    refine g_iconst hB (nI 1) dX6_approvals_22 rfl ?_
    refine g_callVI hB (c_X6_fails _ _) k_X6_112 rfl yk_X6_fails ⟨Nat.le_of_ble_eq_true rfl, Nat.le_of_ble_eq_true rfl⟩ ⟨(by decide), _, _, _, rfl, rfl, rfl⟩ rfl (Nat.le_of_ble_eq_true rfl) ⟨Nat.le_of_ble_eq_true rfl, Nat.le_of_ble_eq_true rfl⟩ dX6_approvals_23 ?_
    rintro _ _ ⟨rfl, rfl⟩
    exact g_iret hB hr rfl (Nat.le_of_ble_eq_true rfl) (Nat.le_of_ble_eq_true rfl) (⟨by first | (simp only [rApprovals, fl, c_10, ij, cond_true, cond_false]; done) | (simp only [rApprovals, fl, c_10, cond_true, cond_false]; done), by first | (simp only [rApprovals, fl, c_10, ij, cond_true, cond_false]; done) | (simp only [rApprovals, fl, c_10, cond_true, cond_false]; done)⟩) dX6_approvals_26
  · obtain ⟨j, hj, rfl⟩ := rgB_t c_10
    have ij := ix_nI (show j < 2 ^ 31 by omega)
    refine g_aload_n hB 0 dX6_approvals_13 rfl rfl ?_
    refine g_iload_n hB 1 dX6_approvals_14 rfl rfl ?_
    refine g_callVI hB (c_X6_good _ j (by omega)) k_X6_115 rfl yk_X6_good ⟨Nat.le_of_ble_eq_true rfl, Nat.le_of_ble_eq_true rfl⟩ ⟨(by decide), _, _, _, rfl, rfl, rfl⟩ rfl (Nat.le_of_ble_eq_true rfl) ⟨Nat.le_of_ble_eq_true rfl, Nat.le_of_ble_eq_true rfl⟩ dX6_approvals_15 ?_
    rintro _ _ ⟨rfl, rfl⟩
    refine g_goto hB 26 dX6_approvals_18 (by decide) ?_
    exact g_iret hB hr rfl (Nat.le_of_ble_eq_true rfl) (Nat.le_of_ble_eq_true rfl) (⟨by first | (simp only [rApprovals, fl, c_10, ij, cond_true, cond_false]; done) | (simp only [rApprovals, fl, c_10, cond_true, cond_false]; done), by first | (simp only [rApprovals, fl, c_10, ij, cond_true, cond_false]; done) | (simp only [rApprovals, fl, c_10, cond_true, cond_false]; done)⟩) dX6_approvals_26
theorem c_X6_told (S : Mem) (x k : Int32) (ng nm nc : Nat) (hg : S 17 0 4 = nI ng) (hng : ng ≤ 10) (hm : S 17 0 6 = nI nm) (hnm : nm ≤ 12) (hc : S 17 0 11 = nI nc) (hnc : nc ≤ 40) : CI l yX6_told cX6_told 4 (some .int) { frames := 3, cells := 0, slots := 0, locals := 64 } D ad CNT ca SR (SH ad ca S) [.ref (ad 17 0), .int (x), .int (k)] (PR ad ca (rTold (uM S 17 0 0 (nI 0)) x k ng nm nc).1 (rTold (uM S 17 0 0 (nI 0)) x k ng nm nc).2) := by
  refine CI.of _ RX6 (by decide +kernel) rfl (Nat.le_of_ble_eq_true rfl) ?_
  intro p9 e9 s9 m9 a9 b9 me9 c9 A9 hB hr hnm9
  refine g_aload_n hB 0 dX6_told_0 rfl rfl ?_
  refine g_iconst hB (nI 0) dX6_told_1 rfl ?_
  refine s_put (ci := 6) (T := TX6) (N := 26) hB in_X6 rfl tyX6 tyX6_ok nmX6 17 0 0 (by decide) (by decide) rfl rfl tw_fl_X6_74 rfl rfl rfl (Nat.le_of_ble_eq_true rfl) dX6_told_2 ?_
  refine g_aload_n hB 0 dX6_told_5 rfl rfl ?_
  refine g_iload_n hB 1 dX6_told_6 rfl rfl ?_
  refine g_callVI hB (c_X6_isPlace _ _ ng nm hg hng hm hnm) k_X6_151 rfl yk_X6_isPlace ⟨Nat.le_of_ble_eq_true rfl, Nat.le_of_ble_eq_true rfl⟩ ⟨(by decide), _, _, _, rfl, rfl, rfl⟩ rfl (Nat.le_of_ble_eq_true rfl) ⟨Nat.le_of_ble_eq_true rfl, Nat.le_of_ble_eq_true rfl⟩ dX6_told_7 ?_
  rintro _ _ ⟨rfl, rfl⟩
  refine b_if_eq hB (plB x ng nm) 20 dX6_told_10 (by decide) (fun c_10 => ?_) (fun c_10 => ?_)
  · refine g_aload_n hB 0 dX6_told_20 rfl rfl ?_
    refine g_iconst hB (nI 1) dX6_told_21 rfl ?_
    refine g_callVI hB (c_X6_fails _ _) k_X6_112 rfl yk_X6_fails ⟨Nat.le_of_ble_eq_true rfl, Nat.le_of_ble_eq_true rfl⟩ ⟨(by decide), _, _, _, rfl, rfl, rfl⟩ rfl (Nat.le_of_ble_eq_true rfl) ⟨Nat.le_of_ble_eq_true rfl, Nat.le_of_ble_eq_true rfl⟩ dX6_told_22 ?_
    rintro _ _ ⟨rfl, rfl⟩
    exact g_iret hB hr rfl (Nat.le_of_ble_eq_true rfl) (Nat.le_of_ble_eq_true rfl) (⟨by simp only [rTold, wh, fl, c_10, decide_true, decide_false, cond_true, cond_false], by simp only [rTold, wh, fl, c_10, decide_true, decide_false, cond_true, cond_false]⟩) dX6_told_25
  · refine g_iload_n hB 2 dX6_told_13 rfl rfl ?_
    refine g_callSI hB (c_X6_isKey _ _) k_X6_154 yk_X6_isKey ⟨Nat.le_of_ble_eq_true rfl, Nat.le_of_ble_eq_true rfl⟩ rfl (Nat.le_of_ble_eq_true rfl) ⟨Nat.le_of_ble_eq_true rfl, Nat.le_of_ble_eq_true rfl⟩ dX6_told_14 ?_
    rintro _ _ ⟨rfl, rfl⟩
    refine b_if_ne hB (rgB k 6) 26 dX6_told_17 (by decide) (fun c_17 => ?_) (fun c_17 => ?_)
    · refine g_aload_n hB 0 dX6_told_26 rfl rfl ?_
      refine g_iload_n hB 1 dX6_told_27 rfl rfl ?_
      refine g_iload_n hB 2 dX6_told_28 rfl rfl ?_
      refine g_callVI hB (c_X6_top _ _ _ nc hc hnc) k_X6_91 rfl yk_X6_top ⟨Nat.le_of_ble_eq_true rfl, Nat.le_of_ble_eq_true rfl⟩ ⟨(by decide), _, _, _, rfl, rfl, rfl⟩ rfl (Nat.le_of_ble_eq_true rfl) ⟨Nat.le_of_ble_eq_true rfl, Nat.le_of_ble_eq_true rfl⟩ dX6_told_29 ?_
      rintro _ _ ⟨rfl, rfl⟩
      refine g_istore_n hB 3 dX6_told_32 rfl (by decide) ?_
      refine g_iload_n hB 3 dX6_told_33 rfl rfl ?_
      refine g_iconst hB (-1) dX6_told_34 rfl ?_
      refine g_icmp_eq hB 49 dX6_told_35 (by decide) (fun c_35 => ?_) (fun c_35 => ?_)
      · have e35 : mTopI (uM S 17 0 0 (nI 0)) nc x k = none := (oI_m1 (fun c hc => by have := mTopI_lt hc; omega)).mp c_35
        refine g_iconst hB (-1) dX6_told_49 rfl ?_
        refine g_goto hB 59 dX6_told_50 (by decide) ?_
        exact g_iret hB hr rfl (Nat.le_of_ble_eq_true rfl) (Nat.le_of_ble_eq_true rfl) (⟨by simp only [rTold, wh, fl, c_10, c_17, c_35, e35, decide_true, decide_false, cond_true, cond_false], by simp only [rTold, wh, fl, c_10, c_17, c_35, e35, decide_true, decide_false, cond_true, cond_false]⟩) dX6_told_59
      · obtain ⟨d, e35⟩ : ∃ d, mTopI (uM S 17 0 0 (nI 0)) nc x k = some d := by
          cases hd : mTopI (uM S 17 0 0 (nI 0)) nc x k with
          | none => rw [hd] at c_35; exact absurd rfl c_35
          | some d => exact ⟨d, rfl⟩
        have hdl := mTopI_lt e35
        rw [e35]
        refine g_aload_n hB 0 dX6_told_38 rfl rfl ?_
        refine g_get (ci := 6) (T := TX6) (N := 26) hB in_X6 rfl 17 0 17 (by decide) (by decide) rfl tw_fl_X6_47 rfl dX6_told_39 ?_
        refine g_iload_n hB 3 dX6_told_42 rfl rfl ?_
        refine g_iald hB 18 10 d (n := 40) (by decide) rfl (by first | assumption | omega) (Nat.le_of_ble_eq_true rfl) dX6_told_43 ?_
        refine g_bipush hB (nI 101) dX6_told_44 rfl ?_
        refine g_icmp_ne hB 53 dX6_told_46 (by decide) (fun c_46 => ?_) (fun c_46 => ?_)
        · refine g_aload_n hB 0 dX6_told_53 rfl rfl ?_
          refine g_get (ci := 6) (T := TX6) (N := 26) hB in_X6 rfl 17 0 17 (by decide) (by decide) rfl tw_fl_X6_47 rfl dX6_told_54 ?_
          refine g_iload_n hB 3 dX6_told_57 rfl rfl ?_
          refine g_iald hB 18 10 d (n := 40) (by decide) rfl (by first | assumption | omega) (Nat.le_of_ble_eq_true rfl) dX6_told_58 ?_
          exact g_iret hB hr rfl (Nat.le_of_ble_eq_true rfl) (Nat.le_of_ble_eq_true rfl) (⟨by simp only [rTold, wh, fl, c_10, c_17, c_35, e35, c_46, decide_true, decide_false, cond_true, cond_false], by simp only [rTold, wh, fl, c_10, c_17, c_35, e35, c_46, decide_true, decide_false, cond_true, cond_false]⟩) dX6_told_59
        · refine g_iconst hB (-1) dX6_told_49 rfl ?_
          refine g_goto hB 59 dX6_told_50 (by decide) ?_
          exact g_iret hB hr rfl (Nat.le_of_ble_eq_true rfl) (Nat.le_of_ble_eq_true rfl) (⟨by simp only [rTold, wh, fl, c_10, c_17, c_35, e35, c_46, decide_true, decide_false, cond_true, cond_false], by simp only [rTold, wh, fl, c_10, c_17, c_35, e35, c_46, decide_true, decide_false, cond_true, cond_false]⟩) dX6_told_59
    · refine g_aload_n hB 0 dX6_told_20 rfl rfl ?_
      refine g_iconst hB (nI 1) dX6_told_21 rfl ?_
      refine g_callVI hB (c_X6_fails _ _) k_X6_112 rfl yk_X6_fails ⟨Nat.le_of_ble_eq_true rfl, Nat.le_of_ble_eq_true rfl⟩ ⟨(by decide), _, _, _, rfl, rfl, rfl⟩ rfl (Nat.le_of_ble_eq_true rfl) ⟨Nat.le_of_ble_eq_true rfl, Nat.le_of_ble_eq_true rfl⟩ dX6_told_22 ?_
      rintro _ _ ⟨rfl, rfl⟩
      exact g_iret hB hr rfl (Nat.le_of_ble_eq_true rfl) (Nat.le_of_ble_eq_true rfl) (⟨by simp only [rTold, wh, fl, c_10, c_17, decide_true, decide_false, cond_true, cond_false], by simp only [rTold, wh, fl, c_10, c_17, decide_true, decide_false, cond_true, cond_false]⟩) dX6_told_25
theorem c_X6_taken (S : Mem) (x y k : Int32) (ng nm : Nat) (hm : S 17 0 6 = nI nm) (hnm : nm ≤ 12) (hng : ng ≤ 10) (hp : PAR (S 18 2) ng) (hgr : ∀ m, m < nm → ∃ g, g < ng ∧ S 18 3 m = nI g) : CI l yX6_taken cX6_taken 4 (some .int) { frames := 2, cells := 0, slots := 0, locals := 43 } D ad CNT ca SR (SH ad ca S) [.ref (ad 17 0), .int (x), .int (y), .int (k)] (PR ad ca (rTaken (uM S 17 0 0 (nI 0)) x y k nm).1 (rTaken (uM S 17 0 0 (nI 0)) x y k nm).2) := by
  refine CI.of _ RX6 (by decide +kernel) rfl (Nat.le_of_ble_eq_true rfl) ?_
  intro p9 e9 s9 m9 a9 b9 me9 c9 A9 hB hr hnm9
  refine g_aload_n hB 0 dX6_taken_0 rfl rfl ?_
  refine g_iconst hB (nI 0) dX6_taken_1 rfl ?_
  refine s_put (ci := 6) (T := TX6) (N := 26) hB in_X6 rfl tyX6 tyX6_ok nmX6 17 0 0 (by decide) (by decide) rfl rfl tw_fl_X6_74 rfl rfl rfl (Nat.le_of_ble_eq_true rfl) dX6_taken_2 ?_
  refine g_aload_n hB 0 dX6_taken_5 rfl rfl ?_
  refine g_iload_n hB 1 dX6_taken_6 rfl rfl ?_
  refine g_callVI hB (c_X6_isMachine _ _ nm hm hnm) k_X6_145 rfl yk_X6_isMachine ⟨Nat.le_of_ble_eq_true rfl, Nat.le_of_ble_eq_true rfl⟩ ⟨(by decide), _, _, _, rfl, rfl, rfl⟩ rfl (Nat.le_of_ble_eq_true rfl) ⟨Nat.le_of_ble_eq_true rfl, Nat.le_of_ble_eq_true rfl⟩ dX6_taken_7 ?_
  rintro _ _ ⟨rfl, rfl⟩
  refine b_if_eq hB (rgB x nm) 35 dX6_taken_10 (by decide) (fun c_10 => ?_) (fun c_10 => ?_)
  · refine g_aload_n hB 0 dX6_taken_35 rfl rfl ?_
    refine g_iconst hB (nI 1) dX6_taken_36 rfl ?_
    refine g_callVI hB (c_X6_fails _ _) k_X6_112 rfl yk_X6_fails ⟨Nat.le_of_ble_eq_true rfl, Nat.le_of_ble_eq_true rfl⟩ ⟨(by decide), _, _, _, rfl, rfl, rfl⟩ rfl (Nat.le_of_ble_eq_true rfl) ⟨Nat.le_of_ble_eq_true rfl, Nat.le_of_ble_eq_true rfl⟩ dX6_taken_37 ?_
    rintro _ _ ⟨rfl, rfl⟩
    exact g_iret hB hr rfl (Nat.le_of_ble_eq_true rfl) (Nat.le_of_ble_eq_true rfl) (⟨by first | (simp only [rTaken, fl, c_10, ij, eg, e25, c_32, cond_true, cond_false]; done) | (simp only [rTaken, fl, c_10, ij, eg, e25, cond_true, cond_false]; done) | (simp only [rTaken, fl, c_10, cond_true, cond_false]; done), by first | (simp only [rTaken, fl, c_10, ij, eg, e25, c_32, cond_true, cond_false]; done) | (simp only [rTaken, fl, c_10, ij, eg, e25, cond_true, cond_false]; done) | (simp only [rTaken, fl, c_10, cond_true, cond_false]; done)⟩) dX6_taken_40
  · obtain ⟨j, hj, rfl⟩ := rgB_t c_10
    have ij := ix_nI (show j < 2 ^ 31 by omega)
    obtain ⟨g, hg1, hg2⟩ := hgr j hj
    have hL := lay_len hp hng hg1
    have eg : grp (uM S 17 0 0 (nI 0)) j = g := by unfold grp; rw [show (uM S 17 0 0 (nI 0)) 18 3 j = nI g from hg2]; exact ix_nI (by omega)
    have ei := inR_0 (x := y) (n := (lay (S 18 2) g).length) (by omega)
    refine g_iload_n hB 2 dX6_taken_13 rfl rfl ?_
    refine g_iconst hB (nI 0) dX6_taken_14 rfl ?_
    refine g_aload_n hB 0 dX6_taken_15 rfl rfl ?_
    refine g_iload_n hB 1 dX6_taken_16 rfl rfl ?_
    refine g_callVI hB (c_X6_layers _ j g ng hp hng hg1 (by omega) hg2) k_X6_95 rfl yk_X6_layers ⟨Nat.le_of_ble_eq_true rfl, Nat.le_of_ble_eq_true rfl⟩ ⟨(by decide), _, _, _, rfl, rfl, rfl⟩ rfl (Nat.le_of_ble_eq_true rfl) ⟨Nat.le_of_ble_eq_true rfl, Nat.le_of_ble_eq_true rfl⟩ dX6_taken_17 ?_
    rintro _ _ ⟨rfl, rfl⟩
    refine g_iconst hB (nI 1) dX6_taken_20 rfl ?_
    refine g_isub hB dX6_taken_21 ?_
    refine g_callSI hB (c_X6_in _ _ _ _) k_X6_77 yk_X6_in ⟨Nat.le_of_ble_eq_true rfl, Nat.le_of_ble_eq_true rfl⟩ rfl (Nat.le_of_ble_eq_true rfl) ⟨Nat.le_of_ble_eq_true rfl, Nat.le_of_ble_eq_true rfl⟩ dX6_taken_22 ?_
    rintro _ _ ⟨rfl, rfl⟩
    refine b_if_eq hB (inR y (nI 0) (nI (lay (S 18 2) g).length - nI 1)) 35 dX6_taken_25 (by decide) (fun c_25 => ?_) (fun c_25 => ?_)
    · have e25 : rgB y (lay ((uM S 17 0 0 (nI 0)) 18 2) g).length = false := ei.symm.trans c_25
      refine g_aload_n hB 0 dX6_taken_35 rfl rfl ?_
      refine g_iconst hB (nI 1) dX6_taken_36 rfl ?_
      refine g_callVI hB (c_X6_fails _ _) k_X6_112 rfl yk_X6_fails ⟨Nat.le_of_ble_eq_true rfl, Nat.le_of_ble_eq_true rfl⟩ ⟨(by decide), _, _, _, rfl, rfl, rfl⟩ rfl (Nat.le_of_ble_eq_true rfl) ⟨Nat.le_of_ble_eq_true rfl, Nat.le_of_ble_eq_true rfl⟩ dX6_taken_37 ?_
      rintro _ _ ⟨rfl, rfl⟩
      exact g_iret hB hr rfl (Nat.le_of_ble_eq_true rfl) (Nat.le_of_ble_eq_true rfl) (⟨by first | (simp only [rTaken, fl, c_10, ij, eg, e25, c_32, cond_true, cond_false]; done) | (simp only [rTaken, fl, c_10, ij, eg, e25, cond_true, cond_false]; done) | (simp only [rTaken, fl, c_10, cond_true, cond_false]; done), by first | (simp only [rTaken, fl, c_10, ij, eg, e25, c_32, cond_true, cond_false]; done) | (simp only [rTaken, fl, c_10, ij, eg, e25, cond_true, cond_false]; done) | (simp only [rTaken, fl, c_10, cond_true, cond_false]; done)⟩) dX6_taken_40
    · have e25 := ei.symm.trans c_25
      refine g_iload_n hB 3 dX6_taken_28 rfl rfl ?_
      refine g_callSI hB (c_X6_isKey _ _) k_X6_154 yk_X6_isKey ⟨Nat.le_of_ble_eq_true rfl, Nat.le_of_ble_eq_true rfl⟩ rfl (Nat.le_of_ble_eq_true rfl) ⟨Nat.le_of_ble_eq_true rfl, Nat.le_of_ble_eq_true rfl⟩ dX6_taken_29 ?_
      rintro _ _ ⟨rfl, rfl⟩
      refine b_if_ne hB (rgB k 6) 41 dX6_taken_32 (by decide) (fun c_32 => ?_) (fun c_32 => ?_)
      · obtain ⟨i, hi, rfl⟩ := rgB_t e25
        have ii := ix_nI (show i < 2 ^ 31 by omega)
        obtain ⟨q, hq, rfl⟩ := rgB_t c_32
        have iq := ix_nI (show q < 2 ^ 31 by omega)
        have hs := lay_s10 hp hng hg1 hi
        have e25 : rgB (nI i) (lay ((uM S 17 0 0 (nI 0)) 18 2) g).length = true := e25
        refine g_aload_n hB 0 dX6_taken_41 rfl rfl ?_
        refine g_get (ci := 6) (T := TX6) (N := 26) hB in_X6 rfl 17 0 10 (by decide) (by decide) rfl tw_fl_X6_32 rfl dX6_taken_42 ?_
        refine g_aload_n hB 0 dX6_taken_45 rfl rfl ?_
        refine g_iload_n hB 1 dX6_taken_46 rfl rfl ?_
        refine g_aload_n hB 0 dX6_taken_47 rfl rfl ?_
        refine g_iload_n hB 1 dX6_taken_48 rfl rfl ?_
        refine g_iload_n hB 2 dX6_taken_49 rfl rfl ?_
        refine g_callVI hB (c_X6_slot _ j g ng i hp hng hg1 (by omega) hg2 hi) k_X6_99 rfl yk_X6_slot ⟨Nat.le_of_ble_eq_true rfl, Nat.le_of_ble_eq_true rfl⟩ ⟨(by decide), _, _, _, rfl, rfl, rfl⟩ rfl (Nat.le_of_ble_eq_true rfl) ⟨Nat.le_of_ble_eq_true rfl, Nat.le_of_ble_eq_true rfl⟩ dX6_taken_50 ?_
        rintro _ _ ⟨rfl, rfl⟩
        refine g_callVI hB (c_X6_cells _ _ _) k_X6_102 rfl yk_X6_cells ⟨Nat.le_of_ble_eq_true rfl, Nat.le_of_ble_eq_true rfl⟩ ⟨(by decide), _, _, _, rfl, rfl, rfl⟩ rfl (Nat.le_of_ble_eq_true rfl) ⟨Nat.le_of_ble_eq_true rfl, Nat.le_of_ble_eq_true rfl⟩ dX6_taken_53 ?_
        rintro _ _ ⟨rfl, rfl⟩
        refine g_iload_n hB 3 dX6_taken_56 rfl rfl ?_
        refine g_iadd hB dX6_taken_57 ?_
        refine g_top (nI (6 * (11 * j + (lay (S 18 2) g).getD i 0) + q)) (nI_add _ _) ?_
        refine g_iald hB 18 5 (6 * (11 * j + (lay (S 18 2) g).getD i 0) + q) (n := 792) (by decide) rfl (by first | assumption | omega) (Nat.le_of_ble_eq_true rfl) dX6_taken_58 ?_
        exact g_iret hB hr rfl (Nat.le_of_ble_eq_true rfl) (Nat.le_of_ble_eq_true rfl) (⟨by simp only [rTaken, c_10, ij, eg, e25, c_32, ii, iq, cond_true]; rfl, by simp only [rTaken, c_10, ij, eg, e25, c_32, cond_true]⟩) dX6_taken_59
      · have e25 : rgB y (lay ((uM S 17 0 0 (nI 0)) 18 2) g).length = true := e25
        refine g_aload_n hB 0 dX6_taken_35 rfl rfl ?_
        refine g_iconst hB (nI 1) dX6_taken_36 rfl ?_
        refine g_callVI hB (c_X6_fails _ _) k_X6_112 rfl yk_X6_fails ⟨Nat.le_of_ble_eq_true rfl, Nat.le_of_ble_eq_true rfl⟩ ⟨(by decide), _, _, _, rfl, rfl, rfl⟩ rfl (Nat.le_of_ble_eq_true rfl) ⟨Nat.le_of_ble_eq_true rfl, Nat.le_of_ble_eq_true rfl⟩ dX6_taken_37 ?_
        rintro _ _ ⟨rfl, rfl⟩
        exact g_iret hB hr rfl (Nat.le_of_ble_eq_true rfl) (Nat.le_of_ble_eq_true rfl) (⟨by first | (simp only [rTaken, fl, c_10, ij, eg, e25, c_32, cond_true, cond_false]; done) | (simp only [rTaken, fl, c_10, ij, eg, e25, cond_true, cond_false]; done) | (simp only [rTaken, fl, c_10, cond_true, cond_false]; done), by first | (simp only [rTaken, fl, c_10, ij, eg, e25, c_32, cond_true, cond_false]; done) | (simp only [rTaken, fl, c_10, ij, eg, e25, cond_true, cond_false]; done) | (simp only [rTaken, fl, c_10, cond_true, cond_false]; done)⟩) dX6_taken_40
theorem c_X6_behind (S : Mem) (x : Int32) (ng nm nc : Nat) (hm : S 17 0 6 = nI nm) (hnm : nm ≤ 12) (hc : S 17 0 11 = nI nc) (hnc : nc ≤ 40) (hng : ng ≤ 10) (hp : PAR (S 18 2) ng) (hgr : ∀ m, m < nm → ∃ g, g < ng ∧ S 18 3 m = nI g) : CI l yX6_behind cX6_behind 4 (some .int) { frames := 3, cells := 0, slots := 0, locals := 73 } D ad CNT ca SR (SH ad ca S) [.ref (ad 17 0), .int (x)] (PR ad ca (rBehind (uM S 17 0 0 (nI 0)) x nm nc).1 (rBehind (uM S 17 0 0 (nI 0)) x nm nc).2) := by
  refine CI.of _ RX6 (by decide +kernel) rfl (Nat.le_of_ble_eq_true rfl) ?_
  intro p9 e9 s9 m9 a9 b9 me9 c9 A9 hB hr hnm9
  have loop : ∀ (j g : Nat), j < nm → g < ng → S 18 3 j = nI g → rBehind (uM S 17 0 0 (nI 0)) (nI j) nm nc = (nI (cntB (fun i => mLag (uM S 17 0 0 (nI 0)) nc j ((lay (S 18 2) g).getD i 0)) (lay (S 18 2) g).length), uM S 17 0 0 (nI 0)) → ∀ (n i a : Nat), (lay (S 18 2) g).length - i < n → i ≤ (lay (S 18 2) g).length → a = cntB (fun i => mLag (uM S 17 0 0 (nI 0)) nc j ((lay (S 18 2) g).getD i 0)) i → G p9 l e9 { frames := 3, cells := 0, slots := 0, locals := 73 } s9 m9 a9 b9 me9 c9 D ad A9 4 (MQ b9 (va_Qi (PR ad ca (rBehind (uM S 17 0 0 (nI 0)) (nI j) nm nc).1 (rBehind (uM S 17 0 0 (nI 0)) (nI j) nm nc).2) (fun E' t => WW D ad CNT A9 E' t.heap) A9) a9 s9 0 0 A9) 0 0 CNT (SH ad ca (uM S 17 0 0 (nI 0))) 23 [(0, .ref (ad 17 0)), (1, .int (nI j)), (2, .int (nI a)), (3, .int (nI i))] [] := by
    intro j g hj hg1 hg2 hsp n
    have hL := lay_len hp hng hg1
    induction n with
    | zero => intro i a h1 h2; omega
    | succ n ih =>
      intro i a h1 h2 ha
      have hcl := cntB_le (fun i => mLag (uM S 17 0 0 (nI 0)) nc j ((lay (S 18 2) g).getD i 0)) i
      refine g_iload_n hB 3 dX6_behind_23 rfl rfl ?_
      refine g_aload_n hB 0 dX6_behind_24 rfl rfl ?_
      refine g_iload_n hB 1 dX6_behind_25 rfl rfl ?_
      refine g_callVI hB (c_X6_layers _ j g ng hp hng hg1 (by omega) hg2) k_X6_95 rfl yk_X6_layers ⟨Nat.le_of_ble_eq_true rfl, Nat.le_of_ble_eq_true rfl⟩ ⟨(by decide), _, _, _, rfl, rfl, rfl⟩ rfl (Nat.le_of_ble_eq_true rfl) ⟨Nat.le_of_ble_eq_true rfl, Nat.le_of_ble_eq_true rfl⟩ dX6_behind_26 ?_
      rintro _ _ ⟨rfl, rfl⟩
      refine n_icmp_ge hB i ((lay (S 18 2) g).length) 55 dX6_behind_29 (by decide) (by omega) (by omega) (fun c_29 => ?_) (fun c_29 => ?_)
      · have hk : i = (lay (S 18 2) g).length := by omega
        subst hk
        refine g_iload_n hB 2 dX6_behind_55 rfl rfl ?_
        exact g_iret hB hr rfl (Nat.le_of_ble_eq_true rfl) (Nat.le_of_ble_eq_true rfl) (⟨by rw [hsp, ha], by rw [hsp]⟩) dX6_behind_56
      · refine g_iload_n hB 2 dX6_behind_32 rfl rfl ?_
        refine g_aload_n hB 0 dX6_behind_33 rfl rfl ?_
        refine g_iload_n hB 1 dX6_behind_34 rfl rfl ?_
        refine g_iload_n hB 3 dX6_behind_35 rfl rfl ?_
        refine g_callVI hB (c_X6_lags _ j g ng i nc hp hng hg1 (by omega) hg2 c_29 hc hnc) k_X6_127 rfl yk_X6_lags ⟨Nat.le_of_ble_eq_true rfl, Nat.le_of_ble_eq_true rfl⟩ ⟨(by decide), _, _, _, rfl, rfl, rfl⟩ rfl (Nat.le_of_ble_eq_true rfl) ⟨Nat.le_of_ble_eq_true rfl, Nat.le_of_ble_eq_true rfl⟩ dX6_behind_36 ?_
        rintro _ _ ⟨rfl, rfl⟩
        refine b_if_eq hB (mLag (uM S 17 0 0 (nI 0)) nc j ((lay (S 18 2) g).getD i 0)) 46 dX6_behind_39 (by decide) (fun c_39 => ?_) (fun c_39 => ?_)
        · refine g_iconst hB (nI 0) dX6_behind_46 rfl ?_
          refine g_iadd hB dX6_behind_47 ?_
          refine g_top (nI (a + 0)) (nI_add _ _) ?_
          refine g_istore_n hB 2 dX6_behind_48 rfl (by decide) ?_
          refine g_iinc hB (nI (i + 1)) dX6_behind_49 rfl (nI_1 _) (by decide) ?_
          refine g_goto hB 23 dX6_behind_52 (by decide) ?_
          exact g_sub _ rfl (ih (i + 1) _ (by omega) (by omega) (by rw [cntB, ← ha]; simp only [c_39]; rfl))
        · refine g_iconst hB (nI 1) dX6_behind_42 rfl ?_
          refine g_goto hB 47 dX6_behind_43 (by decide) ?_
          refine g_iadd hB dX6_behind_47 ?_
          refine g_top (nI (a + 1)) (nI_add _ _) ?_
          refine g_istore_n hB 2 dX6_behind_48 rfl (by decide) ?_
          refine g_iinc hB (nI (i + 1)) dX6_behind_49 rfl (nI_1 _) (by decide) ?_
          refine g_goto hB 23 dX6_behind_52 (by decide) ?_
          exact g_sub _ rfl (ih (i + 1) _ (by omega) (by omega) (by rw [cntB, ← ha]; simp only [c_39]; rfl))
  refine g_aload_n hB 0 dX6_behind_0 rfl rfl ?_
  refine g_iconst hB (nI 0) dX6_behind_1 rfl ?_
  refine s_put (ci := 6) (T := TX6) (N := 26) hB in_X6 rfl tyX6 tyX6_ok nmX6 17 0 0 (by decide) (by decide) rfl rfl tw_fl_X6_74 rfl rfl rfl (Nat.le_of_ble_eq_true rfl) dX6_behind_2 ?_
  refine g_aload_n hB 0 dX6_behind_5 rfl rfl ?_
  refine g_iload_n hB 1 dX6_behind_6 rfl rfl ?_
  refine g_callVI hB (c_X6_isMachine _ _ nm hm hnm) k_X6_145 rfl yk_X6_isMachine ⟨Nat.le_of_ble_eq_true rfl, Nat.le_of_ble_eq_true rfl⟩ ⟨(by decide), _, _, _, rfl, rfl, rfl⟩ rfl (Nat.le_of_ble_eq_true rfl) ⟨Nat.le_of_ble_eq_true rfl, Nat.le_of_ble_eq_true rfl⟩ dX6_behind_7 ?_
  rintro _ _ ⟨rfl, rfl⟩
  refine b_if_ne hB (rgB x nm) 19 dX6_behind_10 (by decide) (fun c_10 => ?_) (fun c_10 => ?_)
  · obtain ⟨j, hj, rfl⟩ := rgB_t c_10
    have ij := ix_nI (show j < 2 ^ 31 by omega)
    obtain ⟨g, hg1, hg2⟩ := hgr j hj
    have eg : grp (uM S 17 0 0 (nI 0)) j = g := by unfold grp; rw [show (uM S 17 0 0 (nI 0)) 18 3 j = nI g from hg2]; exact ix_nI (by omega)
    refine g_iconst hB (nI 0) dX6_behind_19 rfl ?_
    refine g_istore_n hB 2 dX6_behind_20 rfl (by decide) ?_
    refine g_iconst hB (nI 0) dX6_behind_21 rfl ?_
    refine g_istore_n hB 3 dX6_behind_22 rfl (by decide) ?_
    exact g_sub _ rfl (loop j g hj hg1 hg2 (by simp only [rBehind, c_10, ij, eg, cond_true]; rfl) 12 0 0 (by have := lay_len hp hng hg1; omega) (by omega) rfl)
  · refine g_aload_n hB 0 dX6_behind_13 rfl rfl ?_
    refine g_iconst hB (nI 1) dX6_behind_14 rfl ?_
    refine g_callVI hB (c_X6_fails _ _) k_X6_112 rfl yk_X6_fails ⟨Nat.le_of_ble_eq_true rfl, Nat.le_of_ble_eq_true rfl⟩ ⟨(by decide), _, _, _, rfl, rfl, rfl⟩ rfl (Nat.le_of_ble_eq_true rfl) ⟨Nat.le_of_ble_eq_true rfl, Nat.le_of_ble_eq_true rfl⟩ dX6_behind_15 ?_
    rintro _ _ ⟨rfl, rfl⟩
    exact g_iret hB hr rfl (Nat.le_of_ble_eq_true rfl) (Nat.le_of_ble_eq_true rfl) (⟨by simp only [rBehind, fl, c_10, decide_true, decide_false, not_true_eq_false, not_false_eq_true, Bool.or_true, Bool.true_or, Bool.or_false, Bool.false_or, cond_true, cond_false], by simp only [rBehind, fl, c_10, decide_true, decide_false, not_true_eq_false, not_false_eq_true, Bool.or_true, Bool.true_or, Bool.or_false, Bool.false_or, cond_true, cond_false]⟩) dX6_behind_18
theorem c_X6_spread (S : Mem) (x : Int32) (nm nc : Nat) (hm : S 17 0 6 = nI nm) (hnm : nm ≤ 12) (hc : S 17 0 11 = nI nc) (hnc : nc ≤ 40) : CI l yX6_spread cX6_spread 6 (some .int) { frames := 2, cells := 0, slots := 0, locals := 43 } D ad CNT ca SR (SH ad ca S) [.ref (ad 17 0), .int (x)] (PR ad ca (rSpread (uM S 17 0 0 (nI 0)) x nm nc).1 (rSpread (uM S 17 0 0 (nI 0)) x nm nc).2) := by
  refine CI.of _ RX6 (by decide +kernel) rfl (Nat.le_of_ble_eq_true rfl) ?_
  intro p9 e9 s9 m9 a9 b9 me9 c9 A9 hB hr hnm9
  have inner : ∀ (j m a : Nat), j < nc → m < nm → G p9 l e9 { frames := 2, cells := 0, slots := 0, locals := 43 } s9 m9 a9 b9 me9 c9 D ad A9 6 (MQ b9 (va_Qi (PR ad ca (rSpread (uM S 17 0 0 (nI 0)) (nI j) nm nc).1 (rSpread (uM S 17 0 0 (nI 0)) (nI j) nm nc).2) (fun E' t => WW D ad CNT A9 E' t.heap) A9) a9 s9 0 0 A9) 0 0 CNT (SH ad ca (uM S 17 0 0 (nI 0))) 84 [(0, .ref (ad 17 0)), (1, .int (nI j)), (2, .int (nI a)), (3, .int (nI m)), (4, .int (bI (hasC (uM S 17 0 0 (nI 0)) m j)))] [] → ∀ (n i : Nat) (x : Int32), 66 - i < n → i ≤ 66 → x = bI (anyB (fun i => decide ((uM S 17 0 0 (nI 0)) 18 5 (66 * m + i) = nI j)) i) → G p9 l e9 { frames := 2, cells := 0, slots := 0, locals := 43 } s9 m9 a9 b9 me9 c9 D ad A9 6 (MQ b9 (va_Qi (PR ad ca (rSpread (uM S 17 0 0 (nI 0)) (nI j) nm nc).1 (rSpread (uM S 17 0 0 (nI 0)) (nI j) nm nc).2) (fun E' t => WW D ad CNT A9 E' t.heap) A9) a9 s9 0 0 A9) 0 0 CNT (SH ad ca (uM S 17 0 0 (nI 0))) 42 [(0, .ref (ad 17 0)), (1, .int (nI j)), (2, .int (nI a)), (3, .int (nI m)), (4, .int (x)), (5, .int (nI (66 * m + i)))] [] := by
    intro j m a hj hmm hK n
    induction n with
    | zero => intro i x h1 h2; omega
    | succ n ih =>
      intro i x h1 h2 hx
      obtain ⟨b, hb⟩ : ∃ b, b = anyB (fun i => decide ((uM S 17 0 0 (nI 0)) 18 5 (66 * m + i) = nI j)) i := ⟨_, rfl⟩
      rw [← hb] at hx
      subst hx
      refine g_iload hB 5 dX6_spread_42 rfl ?_
      refine g_aload_n hB 0 dX6_spread_44 rfl rfl ?_
      refine g_iload_n hB 3 dX6_spread_45 rfl rfl ?_
      refine g_iconst hB (nI 1) dX6_spread_46 rfl ?_
      refine g_iadd hB dX6_spread_47 ?_
      refine g_top (nI (m + 1)) (nI_add _ _) ?_
      refine g_iconst hB (nI 0) dX6_spread_48 rfl ?_
      refine g_callVI hB (c_X6_cells _ _ _) k_X6_102 rfl yk_X6_cells ⟨Nat.le_of_ble_eq_true rfl, Nat.le_of_ble_eq_true rfl⟩ ⟨(by decide), _, _, _, rfl, rfl, rfl⟩ rfl (Nat.le_of_ble_eq_true rfl) ⟨Nat.le_of_ble_eq_true rfl, Nat.le_of_ble_eq_true rfl⟩ dX6_spread_49 ?_
      rintro _ _ ⟨rfl, rfl⟩
      refine n_icmp_ge hB (66 * m + i) (6 * (11 * (m + 1) + 0)) 84 dX6_spread_52 (by decide) (by omega) (by omega) (fun c_52 => ?_) (fun c_52 => ?_)
      · have hk : i = 66 := by omega
        subst hk
        exact g_sub _ (by rw [hb]; rfl) hK
      · refine g_iload hB 4 dX6_spread_55 rfl ?_
        refine b_if_ne hB (b) 71 dX6_spread_57 (by decide) (fun c_57 => ?_) (fun c_57 => ?_)
        · have hv : nI 1 = bI (b || decide ((uM S 17 0 0 (nI 0)) 18 5 (66 * m + i) = nI j)) := by rw [c_57]; rfl
          refine g_iconst hB (nI 1) dX6_spread_71 rfl ?_
          refine g_goto hB 76 dX6_spread_72 (by decide) ?_
          refine g_istore hB 4 dX6_spread_76 (by decide) ?_
          refine g_iinc hB (nI (66 * m + i + 1)) dX6_spread_78 rfl (nI_1 _) (by decide) ?_
          refine g_goto hB 42 dX6_spread_81 (by decide) ?_
          exact g_sub _ rfl (ih (i + 1) _ (by omega) (by omega) (by rw [anyB, ← hb]; exact hv))
        · refine g_aload_n hB 0 dX6_spread_60 rfl rfl ?_
          refine g_get (ci := 6) (T := TX6) (N := 26) hB in_X6 rfl 17 0 10 (by decide) (by decide) rfl tw_fl_X6_32 rfl dX6_spread_61 ?_
          refine g_iload hB 5 dX6_spread_64 rfl ?_
          refine g_iald hB 18 5 (66 * m + i) (n := 792) (by decide) rfl (by first | assumption | omega) (Nat.le_of_ble_eq_true rfl) dX6_spread_66 ?_
          refine g_iload_n hB 1 dX6_spread_67 rfl rfl ?_
          refine g_icmp_ne hB 75 dX6_spread_68 (by decide) (fun c_68 => ?_) (fun c_68 => ?_)
          · have hv : nI 0 = bI (b || decide ((uM S 17 0 0 (nI 0)) 18 5 (66 * m + i) = nI j)) := by rw [c_57, decide_eq_false c_68]; rfl
            refine g_iconst hB (nI 0) dX6_spread_75 rfl ?_
            refine g_istore hB 4 dX6_spread_76 (by decide) ?_
            refine g_iinc hB (nI (66 * m + i + 1)) dX6_spread_78 rfl (nI_1 _) (by decide) ?_
            refine g_goto hB 42 dX6_spread_81 (by decide) ?_
            exact g_sub _ rfl (ih (i + 1) _ (by omega) (by omega) (by rw [anyB, ← hb]; exact hv))
          · have hv : nI 1 = bI (b || decide ((uM S 17 0 0 (nI 0)) 18 5 (66 * m + i) = nI j)) := by rw [c_57, decide_eq_true c_68]; rfl
            refine g_iconst hB (nI 1) dX6_spread_71 rfl ?_
            refine g_goto hB 76 dX6_spread_72 (by decide) ?_
            refine g_istore hB 4 dX6_spread_76 (by decide) ?_
            refine g_iinc hB (nI (66 * m + i + 1)) dX6_spread_78 rfl (nI_1 _) (by decide) ?_
            refine g_goto hB 42 dX6_spread_81 (by decide) ?_
            exact g_sub _ rfl (ih (i + 1) _ (by omega) (by omega) (by rw [anyB, ← hb]; exact hv))
  have loop : ∀ (j : Nat), j < nc → rSpread (uM S 17 0 0 (nI 0)) (nI j) nm nc = (nI (cntB (fun m => hasC (uM S 17 0 0 (nI 0)) m j) nm), uM S 17 0 0 (nI 0)) → ∀ (n i a : Nat), nm - i < n → i ≤ nm → a = cntB (fun m => hasC (uM S 17 0 0 (nI 0)) m j) i → G p9 l e9 { frames := 2, cells := 0, slots := 0, locals := 43 } s9 m9 a9 b9 me9 c9 D ad A9 6 (MQ b9 (va_Qi (PR ad ca (rSpread (uM S 17 0 0 (nI 0)) (nI j) nm nc).1 (rSpread (uM S 17 0 0 (nI 0)) (nI j) nm nc).2) (fun E' t => WW D ad CNT A9 E' t.heap) A9) a9 s9 0 0 A9) 0 0 CNT (SH ad ca (uM S 17 0 0 (nI 0))) 23 [(0, .ref (ad 17 0)), (1, .int (nI j)), (2, .int (nI a)), (3, .int (nI i))] [] := by
    intro j hj hsp n
    induction n with
    | zero => intro i a h1 h2; omega
    | succ n ih =>
      intro i a h1 h2 ha
      have hcl := cntB_le (fun m => hasC (uM S 17 0 0 (nI 0)) m j) i
      have hin : ∀ him : i < nm, _ := fun him => inner j i a hj him (by
        generalize hbb : hasC (uM S 17 0 0 (nI 0)) i j = bb
        refine g_iload_n hB 2 dX6_spread_84 rfl rfl ?_
        refine g_iload hB 4 dX6_spread_85 rfl ?_
        refine b_if_eq hB (bb) 94 dX6_spread_87 (by decide) (fun c_87 => ?_) (fun c_87 => ?_)
        · refine g_iconst hB (nI 0) dX6_spread_94 rfl ?_
          refine g_iadd hB dX6_spread_95 ?_
          refine g_top (nI (a + 0)) (nI_add _ _) ?_
          refine g_istore_n hB 2 dX6_spread_96 rfl (by decide) ?_
          refine g_iinc hB (nI (i + 1)) dX6_spread_97 rfl (nI_1 _) (by decide) ?_
          refine g_goto hB 23 dX6_spread_100 (by decide) ?_
          exact g_sub _ rfl (ih (i + 1) _ (by omega) (by omega) (by rw [cntB, ← ha, hbb, c_87]; rfl))
        · refine g_iconst hB (nI 1) dX6_spread_90 rfl ?_
          refine g_goto hB 95 dX6_spread_91 (by decide) ?_
          refine g_iadd hB dX6_spread_95 ?_
          refine g_top (nI (a + 1)) (nI_add _ _) ?_
          refine g_istore_n hB 2 dX6_spread_96 rfl (by decide) ?_
          refine g_iinc hB (nI (i + 1)) dX6_spread_97 rfl (nI_1 _) (by decide) ?_
          refine g_goto hB 23 dX6_spread_100 (by decide) ?_
          exact g_sub _ rfl (ih (i + 1) _ (by omega) (by omega) (by rw [cntB, ← ha, hbb, c_87]; rfl))
        ) 67 0 (bI false) (by omega) (by omega) rfl
      refine g_iload_n hB 3 dX6_spread_23 rfl rfl ?_
      refine g_aload_n hB 0 dX6_spread_24 rfl rfl ?_
      refine g_get (ci := 6) (T := TX6) (N := 26) hB in_X6 rfl 17 0 6 (by decide) (by decide) rfl tw_fl_X6_81 rfl dX6_spread_25 ?_
      refine g_top (nI nm) (hm) ?_
      refine n_icmp_ge hB i nm 103 dX6_spread_28 (by decide) (by omega) (by omega) (fun c_28 => ?_) (fun c_28 => ?_)
      · have hk : i = nm := by omega
        subst hk
        refine g_iload_n hB 2 dX6_spread_103 rfl rfl ?_
        exact g_iret hB hr rfl (Nat.le_of_ble_eq_true rfl) (Nat.le_of_ble_eq_true rfl) (⟨by rw [hsp, ha], by rw [hsp]⟩) dX6_spread_104
      · refine g_iconst hB (nI 0) dX6_spread_31 rfl ?_
        refine g_istore hB 4 dX6_spread_32 (by decide) ?_
        refine g_aload_n hB 0 dX6_spread_34 rfl rfl ?_
        refine g_iload_n hB 3 dX6_spread_35 rfl rfl ?_
        refine g_iconst hB (nI 0) dX6_spread_36 rfl ?_
        refine g_callVI hB (c_X6_cells _ _ _) k_X6_102 rfl yk_X6_cells ⟨Nat.le_of_ble_eq_true rfl, Nat.le_of_ble_eq_true rfl⟩ ⟨(by decide), _, _, _, rfl, rfl, rfl⟩ rfl (Nat.le_of_ble_eq_true rfl) ⟨Nat.le_of_ble_eq_true rfl, Nat.le_of_ble_eq_true rfl⟩ dX6_spread_37 ?_
        rintro _ _ ⟨rfl, rfl⟩
        refine g_istore hB 5 dX6_spread_40 (by decide) ?_
        refine g_sub [(0, .ref (ad 17 0)), (1, .int (nI j)), (2, .int (nI a)), (3, .int (nI i)), (4, .int (bI false)), (5, .int (nI (66 * i + 0)))] (by rw [show 66 * i + 0 = 6 * (11 * i + 0) by omega]; rfl) (hin c_28)
  refine g_aload_n hB 0 dX6_spread_0 rfl rfl ?_
  refine g_iconst hB (nI 0) dX6_spread_1 rfl ?_
  refine s_put (ci := 6) (T := TX6) (N := 26) hB in_X6 rfl tyX6 tyX6_ok nmX6 17 0 0 (by decide) (by decide) rfl rfl tw_fl_X6_74 rfl rfl rfl (Nat.le_of_ble_eq_true rfl) dX6_spread_2 ?_
  refine g_aload_n hB 0 dX6_spread_5 rfl rfl ?_
  refine g_iload_n hB 1 dX6_spread_6 rfl rfl ?_
  refine g_callVI hB (c_X6_isChange _ _ nc hc hnc) k_X6_157 rfl yk_X6_isChange ⟨Nat.le_of_ble_eq_true rfl, Nat.le_of_ble_eq_true rfl⟩ ⟨(by decide), _, _, _, rfl, rfl, rfl⟩ rfl (Nat.le_of_ble_eq_true rfl) ⟨Nat.le_of_ble_eq_true rfl, Nat.le_of_ble_eq_true rfl⟩ dX6_spread_7 ?_
  rintro _ _ ⟨rfl, rfl⟩
  refine b_if_ne hB (rgB x nc) 19 dX6_spread_10 (by decide) (fun c_10 => ?_) (fun c_10 => ?_)
  · obtain ⟨j, hj, rfl⟩ := rgB_t c_10
    have ij := ix_nI (show j < 2 ^ 31 by omega)
    refine g_iconst hB (nI 0) dX6_spread_19 rfl ?_
    refine g_istore_n hB 2 dX6_spread_20 rfl (by decide) ?_
    refine g_iconst hB (nI 0) dX6_spread_21 rfl ?_
    refine g_istore_n hB 3 dX6_spread_22 rfl (by decide) ?_
    exact g_sub _ rfl (loop j hj (by simp only [rSpread, c_10, ij, cond_true]) (nm + 1) 0 0 (by omega) (by omega) rfl)
  · refine g_aload_n hB 0 dX6_spread_13 rfl rfl ?_
    refine g_iconst hB (nI 1) dX6_spread_14 rfl ?_
    refine g_callVI hB (c_X6_fails _ _) k_X6_112 rfl yk_X6_fails ⟨Nat.le_of_ble_eq_true rfl, Nat.le_of_ble_eq_true rfl⟩ ⟨(by decide), _, _, _, rfl, rfl, rfl⟩ rfl (Nat.le_of_ble_eq_true rfl) ⟨Nat.le_of_ble_eq_true rfl, Nat.le_of_ble_eq_true rfl⟩ dX6_spread_15 ?_
    rintro _ _ ⟨rfl, rfl⟩
    exact g_iret hB hr rfl (Nat.le_of_ble_eq_true rfl) (Nat.le_of_ble_eq_true rfl) (⟨by simp only [rSpread, fl, c_10, decide_true, decide_false, not_true_eq_false, not_false_eq_true, Bool.or_true, Bool.true_or, Bool.or_false, Bool.false_or, cond_true, cond_false], by simp only [rSpread, fl, c_10, decide_true, decide_false, not_true_eq_false, not_false_eq_true, Bool.or_true, Bool.true_or, Bool.or_false, Bool.false_or, cond_true, cond_false]⟩) dX6_spread_18
theorem c_X6_exclude (S : Mem) (x y : Int32) (is_ : Bool) : CI l yX6_exclude cX6_exclude 5 (some .boolean) { frames := 2, cells := 0, slots := 0, locals := 42 } D ad CNT ca SR (SH ad ca S) [.ref (ad 17 0), .int (x), .int (y), .int (bI (is_))] (PR ad ca (rExclude S x y is_).1 (rExclude S x y is_).2) := by
  refine CI.of _ RX6 (by decide +kernel) rfl (Nat.le_of_ble_eq_true rfl) ?_
  intro p9 e9 s9 m9 a9 b9 me9 c9 A9 hB hr hnm9
  refine g_aload_n hB 0 dX6_exclude_0 rfl rfl ?_
  refine g_iload_n hB 1 dX6_exclude_1 rfl rfl ?_
  refine g_callSI hB (c_X6_isKey _ _) k_X6_154 yk_X6_isKey ⟨Nat.le_of_ble_eq_true rfl, Nat.le_of_ble_eq_true rfl⟩ rfl (Nat.le_of_ble_eq_true rfl) ⟨Nat.le_of_ble_eq_true rfl, Nat.le_of_ble_eq_true rfl⟩ dX6_exclude_2 ?_
  rintro _ _ ⟨rfl, rfl⟩
  refine b_if_eq hB (rgB x 6) 15 dX6_exclude_5 (by decide) (fun c_5 => ?_) (fun c_5 => ?_)
  · refine g_iconst hB (nI 1) dX6_exclude_15 rfl ?_
    refine g_goto hB 29 dX6_exclude_16 (by decide) ?_
    refine s_put (ci := 6) (T := TX6) (N := 26) hB in_X6 rfl tyX6 tyX6_ok nmX6 17 0 0 (by decide) (by decide) rfl rfl tw_fl_X6_74 rfl rfl rfl (Nat.le_of_ble_eq_true rfl) dX6_exclude_29 ?_
    refine g_aload_n hB 0 dX6_exclude_32 rfl rfl ?_
    refine g_get (ci := 6) (T := TX6) (N := 26) hB in_X6 rfl 17 0 0 (by decide) (by decide) rfl tw_fl_X6_74 rfl dX6_exclude_33 ?_
    refine g_top ((nI 1)) rfl ?_
    refine g_if_le hB 41 dX6_exclude_36 (by decide) (fun z => absurd z (by decide)) (fun _ => ?_)
    refine g_iconst hB (nI 0) dX6_exclude_39 rfl ?_
    exact g_iret hB hr rfl (Nat.le_of_ble_eq_true rfl) (Nat.le_of_ble_eq_true rfl) (⟨by first | (simp only [rExclude, c_5, c_12, e21, cond_true, cond_false]; done) | (simp only [rExclude, c_5, c_12, cond_true, cond_false]; done) | (simp only [rExclude, c_5, cond_false]; done), by first | (simp only [rExclude, c_5, c_12, e21, cond_true, cond_false]; done) | (simp only [rExclude, c_5, c_12, cond_true, cond_false]; done) | (simp only [rExclude, c_5, cond_false]; done)⟩) dX6_exclude_40
  · refine g_iload_n hB 2 dX6_exclude_8 rfl rfl ?_
    refine g_callSI hB (c_X6_isKey _ _) k_X6_154 yk_X6_isKey ⟨Nat.le_of_ble_eq_true rfl, Nat.le_of_ble_eq_true rfl⟩ rfl (Nat.le_of_ble_eq_true rfl) ⟨Nat.le_of_ble_eq_true rfl, Nat.le_of_ble_eq_true rfl⟩ dX6_exclude_9 ?_
    rintro _ _ ⟨rfl, rfl⟩
    refine b_if_ne hB (rgB y 6) 19 dX6_exclude_12 (by decide) (fun c_12 => ?_) (fun c_12 => ?_)
    · obtain ⟨i, hi, rfl⟩ := rgB_t c_5
      have ii := ix_nI (show i < 2 ^ 31 by omega)
      obtain ⟨j, hj, rfl⟩ := rgB_t c_12
      have ij := ix_nI (show j < 2 ^ 31 by omega)
      refine g_iload_n hB 1 dX6_exclude_19 rfl rfl ?_
      refine g_iload_n hB 2 dX6_exclude_20 rfl rfl ?_
      refine n_icmp_ne hB i j 28 dX6_exclude_21 (by decide) (by omega) (by omega) (fun c_21 => ?_) (fun c_21 => ?_)
      · have d_21 : decide (i = j) = false := decide_eq_false c_21
        have e21 : decide (nI i = nI j) = false := decide_eq_false (fun z => c_21 ((nI_eq (by omega) (by omega)).mp z))
        refine g_iconst hB (nI 0) dX6_exclude_28 rfl ?_
        refine s_put (ci := 6) (T := TX6) (N := 26) hB in_X6 rfl tyX6 tyX6_ok nmX6 17 0 0 (by decide) (by decide) rfl rfl tw_fl_X6_74 rfl rfl rfl (Nat.le_of_ble_eq_true rfl) dX6_exclude_29 ?_
        refine g_aload_n hB 0 dX6_exclude_32 rfl rfl ?_
        refine g_get (ci := 6) (T := TX6) (N := 26) hB in_X6 rfl 17 0 0 (by decide) (by decide) rfl tw_fl_X6_74 rfl dX6_exclude_33 ?_
        refine g_top ((nI 0)) rfl ?_
        refine g_if_le hB 41 dX6_exclude_36 (by decide) (fun _ => ?_) (fun z => absurd (by decide) z)
        refine g_aload_n hB 0 dX6_exclude_41 rfl rfl ?_
        refine g_get (ci := 6) (T := TX6) (N := 26) hB in_X6 rfl 17 0 22 (by decide) (by decide) rfl tw_fl_X6_62 rfl dX6_exclude_42 ?_
        refine g_iload_n hB 1 dX6_exclude_45 rfl rfl ?_
        refine g_iald hB 18 15 i (n := 6) (by decide) rfl (by first | assumption | omega) (Nat.le_of_ble_eq_true rfl) dX6_exclude_46 ?_
        refine g_iload_n hB 2 dX6_exclude_47 rfl rfl ?_
        refine g_ishr hB dX6_exclude_48 ?_
        refine g_iconst hB (nI 1) dX6_exclude_49 rfl ?_
        refine g_iand hB dX6_exclude_50 ?_
        refine g_iconst hB (nI 1) dX6_exclude_51 rfl ?_
        refine g_icmp_ne hB 59 dX6_exclude_52 (by decide) (fun c_52 => ?_) (fun c_52 => ?_)
        · have e52 : bitI (uM S 17 0 0 (nI 0) 18 15 i) (nI j) = false := decide_eq_false c_52
          refine g_iconst hB (nI 0) dX6_exclude_59 rfl ?_
          refine g_istore hB 4 dX6_exclude_60 (by decide) ?_
          refine g_iload hB 4 dX6_exclude_62 rfl ?_
          refine g_iload_n hB 3 dX6_exclude_64 rfl rfl ?_
          refine g_icmp_eq hB 92 dX6_exclude_65 (by decide) (fun c_65 => ?_) (fun c_65 => ?_)
          · have e65 : (bitI (uM S 17 0 0 (nI 0) 18 15 i) (nI j) == is_) = true := by cases is_ <;> first | (rw [e52]; rfl) | exact absurd c_65 (by decide)
            refine g_iload hB 4 dX6_exclude_92 rfl ?_
            exact g_iret hB hr rfl (Nat.le_of_ble_eq_true rfl) (Nat.le_of_ble_eq_true rfl) (⟨by simp only [rExclude, rExcl, c_5, c_12, e21, ii, e52, cond_true, cond_false]; rfl, by simp only [rExclude, rExcl, c_5, c_12, e21, ii, ij, e65, cond_true, cond_false]⟩) dX6_exclude_94
          · have e65 : (bitI (uM S 17 0 0 (nI 0) 18 15 i) (nI j) == is_) = false := by cases is_ <;> first | (rw [e52]; rfl) | exact absurd (by decide) c_65
            refine g_aload_n hB 0 dX6_exclude_68 rfl rfl ?_
            refine g_get (ci := 6) (T := TX6) (N := 26) hB in_X6 rfl 17 0 22 (by decide) (by decide) rfl tw_fl_X6_62 rfl dX6_exclude_69 ?_
            refine g_iload_n hB 1 dX6_exclude_72 rfl rfl ?_
            refine g_dup2 hB rfl rfl dX6_exclude_73 ?_
            refine g_iald hB 18 15 i (n := 6) (by decide) rfl (by first | assumption | omega) (Nat.le_of_ble_eq_true rfl) dX6_exclude_74 ?_
            refine g_iconst hB (nI 1) dX6_exclude_75 rfl ?_
            refine g_iload_n hB 2 dX6_exclude_76 rfl rfl ?_
            refine g_ishl hB dX6_exclude_77 ?_
            refine g_ixor hB dX6_exclude_78 ?_
            refine s_iast hB 18 15 i (n := 6) (by decide) (fun _ => rfl) (by first | assumption | omega) (Nat.le_of_ble_eq_true rfl) dX6_exclude_79 ?_
            refine g_aload_n hB 0 dX6_exclude_80 rfl rfl ?_
            refine g_get (ci := 6) (T := TX6) (N := 26) hB in_X6 rfl 17 0 22 (by decide) (by decide) rfl tw_fl_X6_62 rfl dX6_exclude_81 ?_
            refine g_iload_n hB 2 dX6_exclude_84 rfl rfl ?_
            refine g_dup2 hB rfl rfl dX6_exclude_85 ?_
            refine g_iald hB 18 15 j (n := 6) (by decide) rfl (by first | assumption | omega) (Nat.le_of_ble_eq_true rfl) dX6_exclude_86 ?_
            refine g_iconst hB (nI 1) dX6_exclude_87 rfl ?_
            refine g_iload_n hB 1 dX6_exclude_88 rfl rfl ?_
            refine g_ishl hB dX6_exclude_89 ?_
            refine g_ixor hB dX6_exclude_90 ?_
            refine s_iast hB 18 15 j (n := 6) (by decide) (fun _ => rfl) (by first | assumption | omega) (Nat.le_of_ble_eq_true rfl) dX6_exclude_91 ?_
            refine g_iload hB 4 dX6_exclude_92 rfl ?_
            exact g_iret hB hr rfl (Nat.le_of_ble_eq_true rfl) (Nat.le_of_ble_eq_true rfl) (⟨by simp only [rExclude, rExcl, c_5, c_12, e21, ii, e52, cond_true, cond_false]; rfl, by simp only [rExclude, rExcl, c_5, c_12, e21, ii, ij, e65, cond_true, cond_false]⟩) dX6_exclude_94
        · have e52 : bitI (uM S 17 0 0 (nI 0) 18 15 i) (nI j) = true := decide_eq_true c_52
          refine g_iconst hB (nI 1) dX6_exclude_55 rfl ?_
          refine g_goto hB 60 dX6_exclude_56 (by decide) ?_
          refine g_istore hB 4 dX6_exclude_60 (by decide) ?_
          refine g_iload hB 4 dX6_exclude_62 rfl ?_
          refine g_iload_n hB 3 dX6_exclude_64 rfl rfl ?_
          refine g_icmp_eq hB 92 dX6_exclude_65 (by decide) (fun c_65 => ?_) (fun c_65 => ?_)
          · have e65 : (bitI (uM S 17 0 0 (nI 0) 18 15 i) (nI j) == is_) = true := by cases is_ <;> first | (rw [e52]; rfl) | exact absurd c_65 (by decide)
            refine g_iload hB 4 dX6_exclude_92 rfl ?_
            exact g_iret hB hr rfl (Nat.le_of_ble_eq_true rfl) (Nat.le_of_ble_eq_true rfl) (⟨by simp only [rExclude, rExcl, c_5, c_12, e21, ii, e52, cond_true, cond_false]; rfl, by simp only [rExclude, rExcl, c_5, c_12, e21, ii, ij, e65, cond_true, cond_false]⟩) dX6_exclude_94
          · have e65 : (bitI (uM S 17 0 0 (nI 0) 18 15 i) (nI j) == is_) = false := by cases is_ <;> first | (rw [e52]; rfl) | exact absurd (by decide) c_65
            refine g_aload_n hB 0 dX6_exclude_68 rfl rfl ?_
            refine g_get (ci := 6) (T := TX6) (N := 26) hB in_X6 rfl 17 0 22 (by decide) (by decide) rfl tw_fl_X6_62 rfl dX6_exclude_69 ?_
            refine g_iload_n hB 1 dX6_exclude_72 rfl rfl ?_
            refine g_dup2 hB rfl rfl dX6_exclude_73 ?_
            refine g_iald hB 18 15 i (n := 6) (by decide) rfl (by first | assumption | omega) (Nat.le_of_ble_eq_true rfl) dX6_exclude_74 ?_
            refine g_iconst hB (nI 1) dX6_exclude_75 rfl ?_
            refine g_iload_n hB 2 dX6_exclude_76 rfl rfl ?_
            refine g_ishl hB dX6_exclude_77 ?_
            refine g_ixor hB dX6_exclude_78 ?_
            refine s_iast hB 18 15 i (n := 6) (by decide) (fun _ => rfl) (by first | assumption | omega) (Nat.le_of_ble_eq_true rfl) dX6_exclude_79 ?_
            refine g_aload_n hB 0 dX6_exclude_80 rfl rfl ?_
            refine g_get (ci := 6) (T := TX6) (N := 26) hB in_X6 rfl 17 0 22 (by decide) (by decide) rfl tw_fl_X6_62 rfl dX6_exclude_81 ?_
            refine g_iload_n hB 2 dX6_exclude_84 rfl rfl ?_
            refine g_dup2 hB rfl rfl dX6_exclude_85 ?_
            refine g_iald hB 18 15 j (n := 6) (by decide) rfl (by first | assumption | omega) (Nat.le_of_ble_eq_true rfl) dX6_exclude_86 ?_
            refine g_iconst hB (nI 1) dX6_exclude_87 rfl ?_
            refine g_iload_n hB 1 dX6_exclude_88 rfl rfl ?_
            refine g_ishl hB dX6_exclude_89 ?_
            refine g_ixor hB dX6_exclude_90 ?_
            refine s_iast hB 18 15 j (n := 6) (by decide) (fun _ => rfl) (by first | assumption | omega) (Nat.le_of_ble_eq_true rfl) dX6_exclude_91 ?_
            refine g_iload hB 4 dX6_exclude_92 rfl ?_
            exact g_iret hB hr rfl (Nat.le_of_ble_eq_true rfl) (Nat.le_of_ble_eq_true rfl) (⟨by simp only [rExclude, rExcl, c_5, c_12, e21, ii, e52, cond_true, cond_false]; rfl, by simp only [rExclude, rExcl, c_5, c_12, e21, ii, ij, e65, cond_true, cond_false]⟩) dX6_exclude_94
      · have d_21 : decide (i = j) = true := decide_eq_true c_21
        have e21 : decide (nI i = nI j) = true := decide_eq_true (congrArg nI c_21)
        refine g_iconst hB (nI 2) dX6_exclude_24 rfl ?_
        refine g_goto hB 29 dX6_exclude_25 (by decide) ?_
        refine s_put (ci := 6) (T := TX6) (N := 26) hB in_X6 rfl tyX6 tyX6_ok nmX6 17 0 0 (by decide) (by decide) rfl rfl tw_fl_X6_74 rfl rfl rfl (Nat.le_of_ble_eq_true rfl) dX6_exclude_29 ?_
        refine g_aload_n hB 0 dX6_exclude_32 rfl rfl ?_
        refine g_get (ci := 6) (T := TX6) (N := 26) hB in_X6 rfl 17 0 0 (by decide) (by decide) rfl tw_fl_X6_74 rfl dX6_exclude_33 ?_
        refine g_top ((nI 2)) rfl ?_
        refine g_if_le hB 41 dX6_exclude_36 (by decide) (fun z => absurd z (by decide)) (fun _ => ?_)
        refine g_iconst hB (nI 0) dX6_exclude_39 rfl ?_
        exact g_iret hB hr rfl (Nat.le_of_ble_eq_true rfl) (Nat.le_of_ble_eq_true rfl) (⟨by first | (simp only [rExclude, c_5, c_12, e21, cond_true, cond_false]; done) | (simp only [rExclude, c_5, c_12, cond_true, cond_false]; done) | (simp only [rExclude, c_5, cond_false]; done), by first | (simp only [rExclude, c_5, c_12, e21, cond_true, cond_false]; done) | (simp only [rExclude, c_5, c_12, cond_true, cond_false]; done) | (simp only [rExclude, c_5, cond_false]; done)⟩) dX6_exclude_40
    · refine g_iconst hB (nI 1) dX6_exclude_15 rfl ?_
      refine g_goto hB 29 dX6_exclude_16 (by decide) ?_
      refine s_put (ci := 6) (T := TX6) (N := 26) hB in_X6 rfl tyX6 tyX6_ok nmX6 17 0 0 (by decide) (by decide) rfl rfl tw_fl_X6_74 rfl rfl rfl (Nat.le_of_ble_eq_true rfl) dX6_exclude_29 ?_
      refine g_aload_n hB 0 dX6_exclude_32 rfl rfl ?_
      refine g_get (ci := 6) (T := TX6) (N := 26) hB in_X6 rfl 17 0 0 (by decide) (by decide) rfl tw_fl_X6_74 rfl dX6_exclude_33 ?_
      refine g_top ((nI 1)) rfl ?_
      refine g_if_le hB 41 dX6_exclude_36 (by decide) (fun z => absurd z (by decide)) (fun _ => ?_)
      refine g_iconst hB (nI 0) dX6_exclude_39 rfl ?_
      exact g_iret hB hr rfl (Nat.le_of_ble_eq_true rfl) (Nat.le_of_ble_eq_true rfl) (⟨by first | (simp only [rExclude, c_5, c_12, e21, cond_true, cond_false]; done) | (simp only [rExclude, c_5, c_12, cond_true, cond_false]; done) | (simp only [rExclude, c_5, cond_false]; done), by first | (simp only [rExclude, c_5, c_12, e21, cond_true, cond_false]; done) | (simp only [rExclude, c_5, c_12, cond_true, cond_false]; done) | (simp only [rExclude, c_5, cond_false]; done)⟩) dX6_exclude_40
theorem c_X6_approve (S : Mem) (x y : Int32) (nc t : Nat) (hc : S 17 0 11 = nI nc) (hnc : nc ≤ 40) (ht : S 17 0 1 = nI t) (htb : t < 2 ^ 20) : CI l yX6_approve cX6_approve 5 (some .int) { frames := 2, cells := 0, slots := 0, locals := 43 } D ad CNT ca SR (SH ad ca S) [.ref (ad 17 0), .int (x), .int (y)] (PR ad ca (rApprove (uM S 17 0 0 (nI 0)) x y nc t).1 (rApprove (uM S 17 0 0 (nI 0)) x y nc t).2) := by
  refine CI.of _ RX6 (by decide +kernel) rfl (Nat.le_of_ble_eq_true rfl) ?_
  intro p9 e9 s9 m9 a9 b9 me9 c9 A9 hB hr hnm9
  refine g_aload_n hB 0 dX6_approve_0 rfl rfl ?_
  refine g_iconst hB (nI 0) dX6_approve_1 rfl ?_
  refine s_put (ci := 6) (T := TX6) (N := 26) hB in_X6 rfl tyX6 tyX6_ok nmX6 17 0 0 (by decide) (by decide) rfl rfl tw_fl_X6_74 rfl rfl rfl (Nat.le_of_ble_eq_true rfl) dX6_approve_2 ?_
  refine g_iload_n hB 1 dX6_approve_5 rfl rfl ?_
  refine g_callSI hB (c_X6_isPerson _ _) k_X6_121 yk_X6_isPerson ⟨Nat.le_of_ble_eq_true rfl, Nat.le_of_ble_eq_true rfl⟩ rfl (Nat.le_of_ble_eq_true rfl) ⟨Nat.le_of_ble_eq_true rfl, Nat.le_of_ble_eq_true rfl⟩ dX6_approve_6 ?_
  rintro _ _ ⟨rfl, rfl⟩
  refine b_if_eq hB (rgB x 8) 20 dX6_approve_9 (by decide) (fun c_9 => ?_) (fun c_9 => ?_)
  · refine g_aload_n hB 0 dX6_approve_20 rfl rfl ?_
    refine g_iconst hB (nI 1) dX6_approve_21 rfl ?_
    refine g_callVI hB (c_X6_fails _ _) k_X6_112 rfl yk_X6_fails ⟨Nat.le_of_ble_eq_true rfl, Nat.le_of_ble_eq_true rfl⟩ ⟨(by decide), _, _, _, rfl, rfl, rfl⟩ rfl (Nat.le_of_ble_eq_true rfl) ⟨Nat.le_of_ble_eq_true rfl, Nat.le_of_ble_eq_true rfl⟩ dX6_approve_22 ?_
    rintro _ _ ⟨rfl, rfl⟩
    exact g_iret hB hr rfl (Nat.le_of_ble_eq_true rfl) (Nat.le_of_ble_eq_true rfl) (⟨by simp only [rApprove, fl, c_9, decide_true, decide_false, not_true_eq_false, not_false_eq_true, Bool.or_true, Bool.true_or, Bool.or_false, Bool.false_or, cond_true, cond_false], by simp only [rApprove, fl, c_9, decide_true, decide_false, not_true_eq_false, not_false_eq_true, Bool.or_true, Bool.true_or, Bool.or_false, Bool.false_or, cond_true, cond_false]⟩) dX6_approve_25
  · refine g_aload_n hB 0 dX6_approve_12 rfl rfl ?_
    refine g_iload_n hB 2 dX6_approve_13 rfl rfl ?_
    refine g_callVI hB (c_X6_isChange _ _ nc hc hnc) k_X6_157 rfl yk_X6_isChange ⟨Nat.le_of_ble_eq_true rfl, Nat.le_of_ble_eq_true rfl⟩ ⟨(by decide), _, _, _, rfl, rfl, rfl⟩ rfl (Nat.le_of_ble_eq_true rfl) ⟨Nat.le_of_ble_eq_true rfl, Nat.le_of_ble_eq_true rfl⟩ dX6_approve_14 ?_
    rintro _ _ ⟨rfl, rfl⟩
    refine b_if_ne hB (rgB y nc) 26 dX6_approve_17 (by decide) (fun c_17 => ?_) (fun c_17 => ?_)
    · obtain ⟨j, hj, rfl⟩ := rgB_t c_9
      have ij := ix_nI (show j < 2 ^ 31 by omega)
      obtain ⟨i, hi, rfl⟩ := rgB_t c_17
      have ii := ix_nI (show i < 2 ^ 31 by omega)
      refine g_bipush hB (nI 8) dX6_approve_26 rfl ?_
      refine g_iload_n hB 2 dX6_approve_28 rfl rfl ?_
      refine g_imul hB dX6_approve_29 ?_
      refine g_top (nI (8 * i)) (pk_mul _ _) ?_
      refine g_iload_n hB 1 dX6_approve_30 rfl rfl ?_
      refine g_iadd hB dX6_approve_31 ?_
      refine g_top (nI (8 * i + j)) (nI_add _ _) ?_
      refine g_istore_n hB 3 dX6_approve_32 rfl (by decide) ?_
      refine g_aload_n hB 0 dX6_approve_33 rfl rfl ?_
      refine g_get (ci := 6) (T := TX6) (N := 26) hB in_X6 rfl 17 0 3 (by decide) (by decide) rfl tw_fl_X6_13 rfl dX6_approve_34 ?_
      refine g_iload_n hB 1 dX6_approve_37 rfl rfl ?_
      refine g_iald hB 18 1 j (n := 8) (by decide) rfl (by first | assumption | omega) (Nat.le_of_ble_eq_true rfl) dX6_approve_38 ?_
      refine g_if_ne hB 68 dX6_approve_39 (by decide) (fun c_39 => ?_) (fun c_39 => ?_)
      · refine g_iconst hB (nI 0) dX6_approve_68 rfl ?_
        refine g_istore hB 4 dX6_approve_69 (by decide) ?_
        refine g_iload hB 4 dX6_approve_71 rfl ?_
        refine g_if_eq hB 106 dX6_approve_73 (by decide) (fun _ => ?_) (fun z => absurd rfl z)
        refine g_aload_n hB 0 dX6_approve_106 rfl rfl ?_
        refine g_iconst hB (nI 2) dX6_approve_107 rfl ?_
        refine g_callVI hB (c_X6_fails _ _) k_X6_112 rfl yk_X6_fails ⟨Nat.le_of_ble_eq_true rfl, Nat.le_of_ble_eq_true rfl⟩ ⟨(by decide), _, _, _, rfl, rfl, rfl⟩ rfl (Nat.le_of_ble_eq_true rfl) ⟨Nat.le_of_ble_eq_true rfl, Nat.le_of_ble_eq_true rfl⟩ dX6_approve_108 ?_
        rintro _ _ ⟨rfl, rfl⟩
        exact g_iret hB hr rfl (Nat.le_of_ble_eq_true rfl) (Nat.le_of_ble_eq_true rfl) (⟨by simp only [rApprove, fl, ij, ii, c_9, c_17, c_39, decide_true, decide_false, ne_eq, not_true_eq_false, not_false_eq_true, cond_true, cond_false], by simp only [rApprove, fl, ij, ii, c_9, c_17, c_39, decide_true, decide_false, ne_eq, not_true_eq_false, not_false_eq_true, cond_true, cond_false]⟩) dX6_approve_111
      · refine g_aload_n hB 0 dX6_approve_42 rfl rfl ?_
        refine g_get (ci := 6) (T := TX6) (N := 26) hB in_X6 rfl 17 0 2 (by decide) (by decide) rfl tw_fl_X6_7 rfl dX6_approve_43 ?_
        refine g_aload_n hB 0 dX6_approve_46 rfl rfl ?_
        refine g_get (ci := 6) (T := TX6) (N := 26) hB in_X6 rfl 17 0 1 (by decide) (by decide) rfl tw_fl_X6_109 rfl dX6_approve_47 ?_
        refine g_top (nI t) (ht) ?_
        refine g_bipush hB (nI 7) dX6_approve_50 rfl ?_
        refine g_idiv hB (by decide) dX6_approve_52 ?_
        refine g_top (nI (t / 7)) (pk_div (by omega) (by omega) (by omega)) ?_
        refine g_iconst hB (nI 4) dX6_approve_53 rfl ?_
        refine g_irem hB (by decide) dX6_approve_54 ?_
        refine g_top (nI (t / 7 % 4)) (pk_rem (by omega) (by omega) (by omega)) ?_
        refine g_iald hB 18 0 (t / 7 % 4) (n := 4) (by decide) rfl (by first | assumption | omega) (Nat.le_of_ble_eq_true rfl) dX6_approve_55 ?_
        refine g_iload_n hB 1 dX6_approve_56 rfl rfl ?_
        refine g_ishr hB dX6_approve_57 ?_
        refine g_iconst hB (nI 1) dX6_approve_58 rfl ?_
        refine g_iand hB dX6_approve_59 ?_
        refine g_iconst hB (nI 1) dX6_approve_60 rfl ?_
        refine g_icmp_ne hB 68 dX6_approve_61 (by decide) (fun c_61 => ?_) (fun c_61 => ?_)
        · have e61 : bitI (uM S 17 0 0 (nI 0) 18 0 (t / 7 % 4)) (nI j) = false := decide_eq_false c_61
          refine g_iconst hB (nI 0) dX6_approve_68 rfl ?_
          refine g_istore hB 4 dX6_approve_69 (by decide) ?_
          refine g_iload hB 4 dX6_approve_71 rfl ?_
          refine g_if_eq hB 106 dX6_approve_73 (by decide) (fun _ => ?_) (fun z => absurd rfl z)
          refine g_aload_n hB 0 dX6_approve_106 rfl rfl ?_
          refine g_iconst hB (nI 2) dX6_approve_107 rfl ?_
          refine g_callVI hB (c_X6_fails _ _) k_X6_112 rfl yk_X6_fails ⟨Nat.le_of_ble_eq_true rfl, Nat.le_of_ble_eq_true rfl⟩ ⟨(by decide), _, _, _, rfl, rfl, rfl⟩ rfl (Nat.le_of_ble_eq_true rfl) ⟨Nat.le_of_ble_eq_true rfl, Nat.le_of_ble_eq_true rfl⟩ dX6_approve_108 ?_
          rintro _ _ ⟨rfl, rfl⟩
          exact g_iret hB hr rfl (Nat.le_of_ble_eq_true rfl) (Nat.le_of_ble_eq_true rfl) (⟨by simp only [rApprove, fl, ij, ii, c_9, c_17, c_39, c_61, e61, decide_true, decide_false, ne_eq, not_true_eq_false, not_false_eq_true, cond_true, cond_false], by simp only [rApprove, fl, ij, ii, c_9, c_17, c_39, c_61, e61, decide_true, decide_false, ne_eq, not_true_eq_false, not_false_eq_true, cond_true, cond_false]⟩) dX6_approve_111
        · have e61 : bitI (uM S 17 0 0 (nI 0) 18 0 (t / 7 % 4)) (nI j) = true := decide_eq_true c_61
          refine g_iconst hB (nI 1) dX6_approve_64 rfl ?_
          refine g_goto hB 69 dX6_approve_65 (by decide) ?_
          refine g_istore hB 4 dX6_approve_69 (by decide) ?_
          refine g_iload hB 4 dX6_approve_71 rfl ?_
          refine g_if_eq hB 106 dX6_approve_73 (by decide) (fun z => absurd z (by decide)) (fun _ => ?_)
          refine g_aload_n hB 0 dX6_approve_76 rfl rfl ?_
          refine g_get (ci := 6) (T := TX6) (N := 26) hB in_X6 rfl 17 0 13 (by decide) (by decide) rfl tw_fl_X6_35 rfl dX6_approve_77 ?_
          refine g_iload_n hB 2 dX6_approve_80 rfl rfl ?_
          refine g_iald hB 18 6 i (n := 40) (by decide) rfl (by first | assumption | omega) (Nat.le_of_ble_eq_true rfl) dX6_approve_81 ?_
          refine g_iload_n hB 1 dX6_approve_82 rfl rfl ?_
          refine g_icmp_eq hB 106 dX6_approve_83 (by decide) (fun c_83 => ?_) (fun c_83 => ?_)
          · refine g_aload_n hB 0 dX6_approve_106 rfl rfl ?_
            refine g_iconst hB (nI 2) dX6_approve_107 rfl ?_
            refine g_callVI hB (c_X6_fails _ _) k_X6_112 rfl yk_X6_fails ⟨Nat.le_of_ble_eq_true rfl, Nat.le_of_ble_eq_true rfl⟩ ⟨(by decide), _, _, _, rfl, rfl, rfl⟩ rfl (Nat.le_of_ble_eq_true rfl) ⟨Nat.le_of_ble_eq_true rfl, Nat.le_of_ble_eq_true rfl⟩ dX6_approve_108 ?_
            rintro _ _ ⟨rfl, rfl⟩
            exact g_iret hB hr rfl (Nat.le_of_ble_eq_true rfl) (Nat.le_of_ble_eq_true rfl) (⟨by simp only [rApprove, fl, ij, ii, c_9, c_17, c_39, c_61, e61, c_83, decide_true, decide_false, ne_eq, not_true_eq_false, not_false_eq_true, cond_true, cond_false], by simp only [rApprove, fl, ij, ii, c_9, c_17, c_39, c_61, e61, c_83, decide_true, decide_false, ne_eq, not_true_eq_false, not_false_eq_true, cond_true, cond_false]⟩) dX6_approve_111
          · refine g_aload_n hB 0 dX6_approve_86 rfl rfl ?_
            refine g_get (ci := 6) (T := TX6) (N := 26) hB in_X6 rfl 17 0 20 (by decide) (by decide) rfl tw_fl_X6_56 rfl dX6_approve_87 ?_
            refine g_iload_n hB 3 dX6_approve_90 rfl rfl ?_
            refine g_iald hB 18 13 (8 * i + j) (n := 320) (by decide) rfl (by first | assumption | omega) (Nat.le_of_ble_eq_true rfl) dX6_approve_91 ?_
            refine g_iconst hB (nI 1) dX6_approve_92 rfl ?_
            refine g_icmp_eq hB 106 dX6_approve_93 (by decide) (fun c_93 => ?_) (fun c_93 => ?_)
            · refine g_aload_n hB 0 dX6_approve_106 rfl rfl ?_
              refine g_iconst hB (nI 2) dX6_approve_107 rfl ?_
              refine g_callVI hB (c_X6_fails _ _) k_X6_112 rfl yk_X6_fails ⟨Nat.le_of_ble_eq_true rfl, Nat.le_of_ble_eq_true rfl⟩ ⟨(by decide), _, _, _, rfl, rfl, rfl⟩ rfl (Nat.le_of_ble_eq_true rfl) ⟨Nat.le_of_ble_eq_true rfl, Nat.le_of_ble_eq_true rfl⟩ dX6_approve_108 ?_
              rintro _ _ ⟨rfl, rfl⟩
              exact g_iret hB hr rfl (Nat.le_of_ble_eq_true rfl) (Nat.le_of_ble_eq_true rfl) (⟨by simp only [rApprove, fl, ij, ii, c_9, c_17, c_39, c_61, e61, c_83, c_93, decide_true, decide_false, ne_eq, not_true_eq_false, not_false_eq_true, cond_true, cond_false], by simp only [rApprove, fl, ij, ii, c_9, c_17, c_39, c_61, e61, c_83, c_93, decide_true, decide_false, ne_eq, not_true_eq_false, not_false_eq_true, cond_true, cond_false]⟩) dX6_approve_111
            · refine g_aload_n hB 0 dX6_approve_96 rfl rfl ?_
              refine g_get (ci := 6) (T := TX6) (N := 26) hB in_X6 rfl 17 0 18 (by decide) (by decide) rfl tw_fl_X6_50 rfl dX6_approve_97 ?_
              refine g_iload_n hB 2 dX6_approve_100 rfl rfl ?_
              refine g_iald hB 18 11 i (n := 40) (by decide) rfl (by first | assumption | omega) (Nat.le_of_ble_eq_true rfl) dX6_approve_101 ?_
              refine g_iconst hB (nI 3) dX6_approve_102 rfl ?_
              refine g_icmp_ne hB 112 dX6_approve_103 (by decide) (fun c_103 => ?_) (fun c_103 => ?_)
              · refine g_aload_n hB 0 dX6_approve_112 rfl rfl ?_
                refine g_get (ci := 6) (T := TX6) (N := 26) hB in_X6 rfl 17 0 20 (by decide) (by decide) rfl tw_fl_X6_56 rfl dX6_approve_113 ?_
                refine g_iload_n hB 3 dX6_approve_116 rfl rfl ?_
                refine g_iconst hB (nI 1) dX6_approve_117 rfl ?_
                refine s_iast hB 18 13 (8 * i + j) (n := 320) (by decide) (fun _ => rfl) (by first | assumption | omega) (Nat.le_of_ble_eq_true rfl) dX6_approve_118 ?_
                refine g_aload_n hB 0 dX6_approve_119 rfl rfl ?_
                refine g_get (ci := 6) (T := TX6) (N := 26) hB in_X6 rfl 17 0 21 (by decide) (by decide) rfl tw_fl_X6_59 rfl dX6_approve_120 ?_
                refine g_iload_n hB 3 dX6_approve_123 rfl rfl ?_
                refine g_aload_n hB 0 dX6_approve_124 rfl rfl ?_
                refine g_get (ci := 6) (T := TX6) (N := 26) hB in_X6 rfl 17 0 1 (by decide) (by decide) rfl tw_fl_X6_109 rfl dX6_approve_125 ?_
                refine g_top (nI t) (ht) ?_
                refine s_iast hB 18 14 (8 * i + j) (n := 320) (by decide) (fun _ => rfl) (by first | assumption | omega) (Nat.le_of_ble_eq_true rfl) dX6_approve_128 ?_
                refine g_aload_n hB 0 dX6_approve_129 rfl rfl ?_
                refine g_get (ci := 6) (T := TX6) (N := 26) hB in_X6 rfl 17 0 18 (by decide) (by decide) rfl tw_fl_X6_50 rfl dX6_approve_130 ?_
                refine g_iload_n hB 2 dX6_approve_133 rfl rfl ?_
                refine g_iald hB 18 11 i (n := 40) (by decide) rfl (by first | assumption | omega) (Nat.le_of_ble_eq_true rfl) dX6_approve_134 ?_
                refine g_iconst hB (nI 1) dX6_approve_135 rfl ?_
                refine g_icmp_eq hB 210 dX6_approve_136 (by decide) (fun c_136 => ?_) (fun c_136 => ?_)
                · refine g_aload_n hB 0 dX6_approve_210 rfl rfl ?_
                  refine g_get (ci := 6) (T := TX6) (N := 26) hB in_X6 rfl 17 0 18 (by decide) (by decide) rfl tw_fl_X6_50 rfl dX6_approve_211 ?_
                  refine g_iload_n hB 2 dX6_approve_214 rfl rfl ?_
                  refine g_iald hB 18 11 i (n := 40) (by decide) rfl (by first | assumption | omega) (Nat.le_of_ble_eq_true rfl) dX6_approve_215 ?_
                  exact g_iret hB hr rfl (Nat.le_of_ble_eq_true rfl) (Nat.le_of_ble_eq_true rfl) (⟨by simp only [rApprove, rAppr, ij, ii, c_9, c_17, c_39, c_61, e61, c_83, c_93, c_103, c_136, decide_true, decide_false, ne_eq, not_true_eq_false, not_false_eq_true, cond_true, cond_false] <;> (try simp [uM_ap]), by simp only [rApprove, rAppr, ij, ii, c_9, c_17, c_39, c_61, e61, c_83, c_93, c_103, c_136, decide_true, decide_false, ne_eq, not_true_eq_false, not_false_eq_true, cond_true, cond_false] <;> (try rfl)⟩) dX6_approve_216
                · refine g_aload_n hB 0 dX6_approve_139 rfl rfl ?_
                  refine g_iload_n hB 2 dX6_approve_140 rfl rfl ?_
                  refine g_callVI hB (c_X6_good _ i (by omega)) k_X6_115 rfl yk_X6_good ⟨Nat.le_of_ble_eq_true rfl, Nat.le_of_ble_eq_true rfl⟩ ⟨(by decide), _, _, _, rfl, rfl, rfl⟩ rfl (Nat.le_of_ble_eq_true rfl) ⟨Nat.le_of_ble_eq_true rfl, Nat.le_of_ble_eq_true rfl⟩ dX6_approve_141 ?_
                  rintro _ _ ⟨rfl, rfl⟩
                  have hgl : mGood (uM (uM (uM S 17 0 0 (nI 0)) 18 13 (8 * i + j) (nI 1)) 18 14 (8 * i + j) (nI t)) i ≤ 8 := cntB_le _ _
                  refine g_iconst hB (nI 1) dX6_approve_144 rfl ?_
                  refine n_icmp_le hB (mGood (uM (uM (uM S 17 0 0 (nI 0)) 18 13 (8 * i + j) (nI 1)) 18 14 (8 * i + j) (nI t)) i) 1 210 dX6_approve_145 (by decide) (by omega) (by omega) (fun c_145 => ?_) (fun c_145 => ?_)
                  · have e145 : decide (mGood (uM (uM (uM S 17 0 0 (nI 0)) 18 13 (8 * i + j) (nI 1)) 18 14 (8 * i + j) (nI t)) i ≤ 1) = true := decide_eq_true c_145
                    refine g_aload_n hB 0 dX6_approve_210 rfl rfl ?_
                    refine g_get (ci := 6) (T := TX6) (N := 26) hB in_X6 rfl 17 0 18 (by decide) (by decide) rfl tw_fl_X6_50 rfl dX6_approve_211 ?_
                    refine g_iload_n hB 2 dX6_approve_214 rfl rfl ?_
                    refine g_iald hB 18 11 i (n := 40) (by decide) rfl (by first | assumption | omega) (Nat.le_of_ble_eq_true rfl) dX6_approve_215 ?_
                    exact g_iret hB hr rfl (Nat.le_of_ble_eq_true rfl) (Nat.le_of_ble_eq_true rfl) (⟨by simp only [rApprove, rAppr, ij, ii, c_9, c_17, c_39, c_61, e61, c_83, c_93, c_103, c_136, c_145, e145, decide_true, decide_false, ne_eq, not_true_eq_false, not_false_eq_true, cond_true, cond_false] <;> (try simp [uM_ap]), by simp only [rApprove, rAppr, ij, ii, c_9, c_17, c_39, c_61, e61, c_83, c_93, c_103, c_136, c_145, e145, decide_true, decide_false, ne_eq, not_true_eq_false, not_false_eq_true, cond_true, cond_false] <;> (try rfl)⟩) dX6_approve_216
                  · have e145 : decide (mGood (uM (uM (uM S 17 0 0 (nI 0)) 18 13 (8 * i + j) (nI 1)) 18 14 (8 * i + j) (nI t)) i ≤ 1) = false := decide_eq_false (by omega)
                    refine g_aload_n hB 0 dX6_approve_148 rfl rfl ?_
                    refine g_get (ci := 6) (T := TX6) (N := 26) hB in_X6 rfl 17 0 18 (by decide) (by decide) rfl tw_fl_X6_50 rfl dX6_approve_149 ?_
                    refine g_iload_n hB 2 dX6_approve_152 rfl rfl ?_
                    refine g_iconst hB (nI 1) dX6_approve_153 rfl ?_
                    refine s_iast hB 18 11 i (n := 40) (by decide) (fun _ => rfl) (by first | assumption | omega) (Nat.le_of_ble_eq_true rfl) dX6_approve_154 ?_
                    refine g_aload_n hB 0 dX6_approve_155 rfl rfl ?_
                    refine g_dup hB rfl dX6_approve_156 ?_
                    refine g_get (ci := 6) (T := TX6) (N := 26) hB in_X6 rfl 17 0 12 (by decide) (by decide) rfl tw_fl_X6_160 rfl dX6_approve_157 ?_
                    refine g_aload_n hB 0 dX6_approve_160 rfl rfl ?_
                    refine g_get (ci := 6) (T := TX6) (N := 26) hB in_X6 rfl 17 0 19 (by decide) (by decide) rfl tw_fl_X6_53 rfl dX6_approve_161 ?_
                    refine g_iload_n hB 2 dX6_approve_164 rfl rfl ?_
                    refine g_iald hB 18 12 i (n := 40) (by decide) rfl (by first | assumption | omega) (Nat.le_of_ble_eq_true rfl) dX6_approve_165 ?_
                    refine g_iconst hB (-1) dX6_approve_166 rfl ?_
                    refine g_icmp_ne hB 174 dX6_approve_167 (by decide) (fun c_167 => ?_) (fun c_167 => ?_)
                    · have e167 : decide ((uM (uM (uM S 17 0 0 (nI 0)) 18 13 (8 * i + j) (nI 1)) 18 14 (8 * i + j) (nI t)) 18 12 i = -1) = false := decide_eq_false c_167
                      refine g_iconst hB (nI 0) dX6_approve_174 rfl ?_
                      refine g_iadd hB dX6_approve_175 ?_
                      refine s_put (ci := 6) (T := TX6) (N := 26) hB in_X6 rfl tyX6 tyX6_ok nmX6 17 0 12 (by decide) (by decide) rfl rfl tw_fl_X6_160 rfl rfl rfl (Nat.le_of_ble_eq_true rfl) dX6_approve_176 ?_
                      refine g_aload_n hB 0 dX6_approve_179 rfl rfl ?_
                      refine g_get (ci := 6) (T := TX6) (N := 26) hB in_X6 rfl 17 0 19 (by decide) (by decide) rfl tw_fl_X6_53 rfl dX6_approve_180 ?_
                      refine g_iload_n hB 2 dX6_approve_183 rfl rfl ?_
                      refine g_aload_n hB 0 dX6_approve_184 rfl rfl ?_
                      refine g_get (ci := 6) (T := TX6) (N := 26) hB in_X6 rfl 17 0 19 (by decide) (by decide) rfl tw_fl_X6_53 rfl dX6_approve_185 ?_
                      refine g_iload_n hB 2 dX6_approve_188 rfl rfl ?_
                      refine g_iald hB 18 12 i (n := 40) (by decide) rfl (by first | assumption | omega) (Nat.le_of_ble_eq_true rfl) dX6_approve_189 ?_
                      refine g_iconst hB (-1) dX6_approve_190 rfl ?_
                      refine g_icmp_ne hB 203 dX6_approve_191 (by decide) (fun c_191 => ?_) (fun c_191 => ?_)
                      · 
                        refine g_aload_n hB 0 dX6_approve_203 rfl rfl ?_
                        refine g_get (ci := 6) (T := TX6) (N := 26) hB in_X6 rfl 17 0 19 (by decide) (by decide) rfl tw_fl_X6_53 rfl dX6_approve_204 ?_
                        refine g_iload_n hB 2 dX6_approve_207 rfl rfl ?_
                        refine g_iald hB 18 12 i (n := 40) (by decide) rfl (by first | assumption | omega) (Nat.le_of_ble_eq_true rfl) dX6_approve_208 ?_
                        refine s_iast hB 18 12 i (n := 40) (by decide) (fun _ => rfl) (by first | assumption | omega) (Nat.le_of_ble_eq_true rfl) dX6_approve_209 ?_
                        refine g_aload_n hB 0 dX6_approve_210 rfl rfl ?_
                        refine g_get (ci := 6) (T := TX6) (N := 26) hB in_X6 rfl 17 0 18 (by decide) (by decide) rfl tw_fl_X6_50 rfl dX6_approve_211 ?_
                        refine g_iload_n hB 2 dX6_approve_214 rfl rfl ?_
                        refine g_iald hB 18 11 i (n := 40) (by decide) rfl (by first | assumption | omega) (Nat.le_of_ble_eq_true rfl) dX6_approve_215 ?_
                        exact g_iret hB hr rfl (Nat.le_of_ble_eq_true rfl) (Nat.le_of_ble_eq_true rfl) (⟨by simp only [rApprove, rAppr, ij, ii, c_9, c_17, c_39, c_61, e61, c_83, c_93, c_103, c_136, c_145, e145, c_167, e167, c_191, decide_true, decide_false, ne_eq, not_true_eq_false, not_false_eq_true, cond_true, cond_false] <;> (try simp [uM_ap]), by simp only [rApprove, rAppr, ij, ii, c_9, c_17, c_39, c_61, e61, c_83, c_93, c_103, c_136, c_145, e145, c_167, e167, c_191, decide_true, decide_false, ne_eq, not_true_eq_false, not_false_eq_true, cond_true, cond_false] <;> (try rfl)⟩) dX6_approve_216
                      · exact absurd c_191 c_167
                    · have e167 : decide ((uM (uM (uM S 17 0 0 (nI 0)) 18 13 (8 * i + j) (nI 1)) 18 14 (8 * i + j) (nI t)) 18 12 i = -1) = true := decide_eq_true c_167
                      refine g_iconst hB (nI 1) dX6_approve_170 rfl ?_
                      refine g_goto hB 175 dX6_approve_171 (by decide) ?_
                      refine g_iadd hB dX6_approve_175 ?_
                      refine s_put (ci := 6) (T := TX6) (N := 26) hB in_X6 rfl tyX6 tyX6_ok nmX6 17 0 12 (by decide) (by decide) rfl rfl tw_fl_X6_160 rfl rfl rfl (Nat.le_of_ble_eq_true rfl) dX6_approve_176 ?_
                      refine g_aload_n hB 0 dX6_approve_179 rfl rfl ?_
                      refine g_get (ci := 6) (T := TX6) (N := 26) hB in_X6 rfl 17 0 19 (by decide) (by decide) rfl tw_fl_X6_53 rfl dX6_approve_180 ?_
                      refine g_iload_n hB 2 dX6_approve_183 rfl rfl ?_
                      refine g_aload_n hB 0 dX6_approve_184 rfl rfl ?_
                      refine g_get (ci := 6) (T := TX6) (N := 26) hB in_X6 rfl 17 0 19 (by decide) (by decide) rfl tw_fl_X6_53 rfl dX6_approve_185 ?_
                      refine g_iload_n hB 2 dX6_approve_188 rfl rfl ?_
                      refine g_iald hB 18 12 i (n := 40) (by decide) rfl (by first | assumption | omega) (Nat.le_of_ble_eq_true rfl) dX6_approve_189 ?_
                      refine g_iconst hB (-1) dX6_approve_190 rfl ?_
                      refine g_icmp_ne hB 203 dX6_approve_191 (by decide) (fun c_191 => ?_) (fun c_191 => ?_)
                      · exact absurd c_167 c_191
                      · 
                        refine g_aload_n hB 0 dX6_approve_194 rfl rfl ?_
                        refine g_get (ci := 6) (T := TX6) (N := 26) hB in_X6 rfl 17 0 12 (by decide) (by decide) rfl tw_fl_X6_160 rfl dX6_approve_195 ?_
                        refine g_iconst hB (nI 1) dX6_approve_198 rfl ?_
                        refine g_isub hB dX6_approve_199 ?_
                        refine g_goto hB 209 dX6_approve_200 (by decide) ?_
                        refine s_iast hB 18 12 i (n := 40) (by decide) (fun _ => rfl) (by first | assumption | omega) (Nat.le_of_ble_eq_true rfl) dX6_approve_209 ?_
                        refine g_aload_n hB 0 dX6_approve_210 rfl rfl ?_
                        refine g_get (ci := 6) (T := TX6) (N := 26) hB in_X6 rfl 17 0 18 (by decide) (by decide) rfl tw_fl_X6_50 rfl dX6_approve_211 ?_
                        refine g_iload_n hB 2 dX6_approve_214 rfl rfl ?_
                        refine g_iald hB 18 11 i (n := 40) (by decide) rfl (by first | assumption | omega) (Nat.le_of_ble_eq_true rfl) dX6_approve_215 ?_
                        exact g_iret hB hr rfl (Nat.le_of_ble_eq_true rfl) (Nat.le_of_ble_eq_true rfl) (⟨by simp only [rApprove, rAppr, ij, ii, c_9, c_17, c_39, c_61, e61, c_83, c_93, c_103, c_136, c_145, e145, c_167, e167, c_191, decide_true, decide_false, ne_eq, not_true_eq_false, not_false_eq_true, cond_true, cond_false] <;> (try simp [uM_ap]), by simp only [rApprove, rAppr, ij, ii, c_9, c_17, c_39, c_61, e61, c_83, c_93, c_103, c_136, c_145, e145, c_167, e167, c_191, decide_true, decide_false, ne_eq, not_true_eq_false, not_false_eq_true, cond_true, cond_false] <;> (try rfl)⟩) dX6_approve_216
              · refine g_aload_n hB 0 dX6_approve_106 rfl rfl ?_
                refine g_iconst hB (nI 2) dX6_approve_107 rfl ?_
                refine g_callVI hB (c_X6_fails _ _) k_X6_112 rfl yk_X6_fails ⟨Nat.le_of_ble_eq_true rfl, Nat.le_of_ble_eq_true rfl⟩ ⟨(by decide), _, _, _, rfl, rfl, rfl⟩ rfl (Nat.le_of_ble_eq_true rfl) ⟨Nat.le_of_ble_eq_true rfl, Nat.le_of_ble_eq_true rfl⟩ dX6_approve_108 ?_
                rintro _ _ ⟨rfl, rfl⟩
                exact g_iret hB hr rfl (Nat.le_of_ble_eq_true rfl) (Nat.le_of_ble_eq_true rfl) (⟨by simp only [rApprove, fl, ij, ii, c_9, c_17, c_39, c_61, e61, c_83, c_93, c_103, decide_true, decide_false, ne_eq, not_true_eq_false, not_false_eq_true, cond_true, cond_false], by simp only [rApprove, fl, ij, ii, c_9, c_17, c_39, c_61, e61, c_83, c_93, c_103, decide_true, decide_false, ne_eq, not_true_eq_false, not_false_eq_true, cond_true, cond_false]⟩) dX6_approve_111
    · refine g_aload_n hB 0 dX6_approve_20 rfl rfl ?_
      refine g_iconst hB (nI 1) dX6_approve_21 rfl ?_
      refine g_callVI hB (c_X6_fails _ _) k_X6_112 rfl yk_X6_fails ⟨Nat.le_of_ble_eq_true rfl, Nat.le_of_ble_eq_true rfl⟩ ⟨(by decide), _, _, _, rfl, rfl, rfl⟩ rfl (Nat.le_of_ble_eq_true rfl) ⟨Nat.le_of_ble_eq_true rfl, Nat.le_of_ble_eq_true rfl⟩ dX6_approve_22 ?_
      rintro _ _ ⟨rfl, rfl⟩
      exact g_iret hB hr rfl (Nat.le_of_ble_eq_true rfl) (Nat.le_of_ble_eq_true rfl) (⟨by simp only [rApprove, fl, c_9, c_17, decide_true, decide_false, not_true_eq_false, not_false_eq_true, Bool.or_true, Bool.true_or, Bool.or_false, Bool.false_or, cond_true, cond_false], by simp only [rApprove, fl, c_9, c_17, decide_true, decide_false, not_true_eq_false, not_false_eq_true, Bool.or_true, Bool.true_or, Bool.or_false, Bool.false_or, cond_true, cond_false]⟩) dX6_approve_25
end M4
