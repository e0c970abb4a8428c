/-! the public methods: settings, persons, days -/
section X7
variable {l : Launch} {D : va_G} {ad : Nat → Nat → Nat} {ca : Nat → ClassId}
theorem c_X5_setDuty (hl : l.stackTraces = false) (S : Mem) (x y : Int32) : CXI l yX5_setDuty cX5_setDuty 4 (some .int) { frames := 6, cells := 1, slots := 6, locals := 82 } D ad CNT ca SR (SH ad ca S) [.ref (ad 0 0), .int (x), .int (y)] (PRm ad ca (sdC x y) (S 1 0 (ix x)) (uM S 1 0 (ix x) y)) (PXm [xIA] (sdC x y)) := by
  refine CXI.of _ RX5 (by decide +kernel) rfl (Nat.le_of_ble_eq_true rfl) ?_
  intro p9 e9 s9 m9 a9 b9 me9 c9 A9 hB hr hex
  refine g_iload_n hB 1 dX5_setDuty_0 rfl rfl ?_
  refine g_if_lt hB 20 dX5_setDuty_1 (by decide) (fun c_1 => ?_) (fun c_1 => ?_)
  · have e : sdC x y = 1 := by unfold sdC; rw [rg1 c_1]; rfl
    exact g_throwS hl hB hex "remainder or persons is out of range" th_IA (List.mem_of_getElem? (i := 17) rfl) dX5_setDuty_20 dX5_setDuty_23 dX5_setDuty_24 dX5_setDuty_26 dX5_setDuty_29 ⟨Nat.le_of_ble_eq_true rfl, Nat.le_of_ble_eq_true rfl, Nat.le_of_ble_eq_true rfl, Nat.le_of_ble_eq_true rfl⟩ ⟨Nat.le_of_ble_eq_true rfl, Nat.le_of_ble_eq_true rfl⟩ (px1 rfl e)
  · refine g_iload_n hB 1 dX5_setDuty_4 rfl rfl ?_
    refine g_iconst hB (nI 4) dX5_setDuty_5 rfl ?_
    refine g_icmp_ge hB 20 dX5_setDuty_6 (by decide) (fun c_6 => ?_) (fun c_6 => ?_)
    · have e : sdC x y = 1 := by unfold sdC; rw [rg2 (n := 4) (by omega) c_6]; rfl
      exact g_throwS hl hB hex "remainder or persons is out of range" th_IA (List.mem_of_getElem? (i := 17) rfl) dX5_setDuty_20 dX5_setDuty_23 dX5_setDuty_24 dX5_setDuty_26 dX5_setDuty_29 ⟨Nat.le_of_ble_eq_true rfl, Nat.le_of_ble_eq_true rfl, Nat.le_of_ble_eq_true rfl, Nat.le_of_ble_eq_true rfl⟩ ⟨Nat.le_of_ble_eq_true rfl, Nat.le_of_ble_eq_true rfl⟩ (px1 rfl e)
    · have e1 : rgB x 4 = true := rg3 (by omega) c_1 c_6
      refine g_iload_n hB 2 dX5_setDuty_9 rfl rfl ?_
      refine g_if_lt hB 20 dX5_setDuty_10 (by decide) (fun c_10 => ?_) (fun c_10 => ?_)
      · have e : sdC x y = 1 := by unfold sdC; rw [rg1 c_10, Bool.and_false]; rfl
        exact g_throwS hl hB hex "remainder or persons is out of range" th_IA (List.mem_of_getElem? (i := 17) rfl) dX5_setDuty_20 dX5_setDuty_23 dX5_setDuty_24 dX5_setDuty_26 dX5_setDuty_29 ⟨Nat.le_of_ble_eq_true rfl, Nat.le_of_ble_eq_true rfl, Nat.le_of_ble_eq_true rfl, Nat.le_of_ble_eq_true rfl⟩ ⟨Nat.le_of_ble_eq_true rfl, Nat.le_of_ble_eq_true rfl⟩ (px1 rfl e)
      · refine g_iload_n hB 2 dX5_setDuty_13 rfl rfl ?_
        refine g_sipush hB (nI 255) dX5_setDuty_14 rfl ?_
        refine g_icmp_le hB 30 dX5_setDuty_17 (by decide) (fun c_17 => ?_) (fun c_17 => ?_)
        · have e : sdC x y = 0 := by unfold sdC; rw [e1, show rgB y 256 = true from by unfold rgB; rw [i32_le, toInt_nI (by omega)] at c_17; rw [i32_lt] at c_10; have z : (0 : Int32).toInt = 0 := rfl; exact decide_eq_true (by omega)]; rfl
          obtain ⟨j, hj, rfl⟩ := rgB_t e1
          have ij : ix (nI j) = j := ix_nI (by omega)
          refine g_aload_n hB 0 dX5_setDuty_30 rfl rfl ?_
          refine g_get (ci := 5) (T := TX5) (N := 16) hB in_X5 rfl 0 0 2 (by decide) (by decide) rfl tw_fl_X5_13 rfl dX5_setDuty_31 ?_
          refine g_iload_n hB 1 dX5_setDuty_34 rfl rfl ?_
          refine g_iald hB 1 0 j (n := 4) (by decide) rfl (by first | assumption | omega) (Nat.le_of_ble_eq_true rfl) dX5_setDuty_35 ?_
          refine g_istore_n hB 3 dX5_setDuty_36 rfl (by decide) ?_
          refine g_aload_n hB 0 dX5_setDuty_37 rfl rfl ?_
          refine g_get (ci := 5) (T := TX5) (N := 16) hB in_X5 rfl 0 0 2 (by decide) (by decide) rfl tw_fl_X5_13 rfl dX5_setDuty_38 ?_
          refine g_iload_n hB 1 dX5_setDuty_41 rfl rfl ?_
          refine g_iload_n hB 2 dX5_setDuty_42 rfl rfl ?_
          refine s_iast hB 1 0 j (n := 4) (by decide) (fun _ => rfl) (by first | assumption | omega) (Nat.le_of_ble_eq_true rfl) dX5_setDuty_43 ?_
          refine g_iload_n hB 3 dX5_setDuty_44 rfl rfl ?_
          exact g_ixret hB hr rfl (Nat.le_of_ble_eq_true rfl) (Nat.le_of_ble_eq_true rfl) (⟨e, by rw [ij], by rw [ij]⟩) dX5_setDuty_45
        · have e : sdC x y = 1 := by unfold sdC; rw [e1, show rgB y 256 = false from by unfold rgB; refine decide_eq_false (fun z => c_17 ?_); rw [i32_le, toInt_nI (by omega)]; omega]; rfl
          exact g_throwS hl hB hex "remainder or persons is out of range" th_IA (List.mem_of_getElem? (i := 17) rfl) dX5_setDuty_20 dX5_setDuty_23 dX5_setDuty_24 dX5_setDuty_26 dX5_setDuty_29 ⟨Nat.le_of_ble_eq_true rfl, Nat.le_of_ble_eq_true rfl, Nat.le_of_ble_eq_true rfl, Nat.le_of_ble_eq_true rfl⟩ ⟨Nat.le_of_ble_eq_true rfl, Nat.le_of_ble_eq_true rfl⟩ (px1 rfl e)
theorem c_X5_leave (hl : l.stackTraces = false) (S : Mem) (ng nm nc t pa : Nat) (h : KI S ng nm nc t pa) (x : Int32) (b : Bool) : CXI l yX5_leave cX5_leave 4 (some .int) { frames := 7, cells := 2, slots := 12, locals := 110 } D ad CNT ca SR (SH ad ca S) [.ref (ad 0 0), .int (x), .int (bI (b))] (PRm ad ca (leC S x) (leV S (ix x) nc b) (leM S (ix x) nc nm b)) (PXm [xIO, xIS] (leC S x)) := by
  have h0 := h
  obtain ⟨⟨hg, hng0, hng⟩, ⟨hm, hnm⟩, ⟨hc, hnc⟩, ⟨ht, htb⟩, ⟨hpa, hpab⟩, hpar, hmk, hcell, hown⟩ := h
  refine CXI.of _ RX5 (by decide +kernel) rfl (Nat.le_of_ble_eq_true rfl) ?_
  intro p9 e9 s9 m9 a9 b9 me9 c9 A9 hB hr hex
  refine g_iload_n hB 1 dX5_leave_0 rfl rfl ?_
  refine g_callXSV hB hex (c_X5_requirePerson hl _ x) k_X5_79 yk_X5_requirePerson ⟨Nat.le_of_ble_eq_true rfl, Nat.le_of_ble_eq_true rfl⟩ rfl (Nat.le_of_ble_eq_true rfl) ⟨Nat.le_of_ble_eq_true rfl, Nat.le_of_ble_eq_true rfl⟩ dX5_leave_1 ⟨Nat.le_of_ble_eq_true rfl, Nat.le_of_ble_eq_true rfl⟩ (fun X hX => px1 hX.1 (by simp only [leC, hX.2, cond_true, cond_false, decide_true, decide_false, Bool.and_true, Bool.true_and, Bool.and_false, Bool.false_and, Bool.or_true, Bool.true_or, Bool.or_false, Bool.false_or, Bool.not_true, Bool.not_false, not_true_eq_false, not_false_eq_true, ne_eq, Option.isSome])) ?_
  rintro _ ⟨q_1, rfl⟩
  obtain ⟨p, hp, rfl⟩ := rgB_t q_1
  have ip : ix (nI p) = p := ix_nI (by omega)
  refine g_aload_n hB 0 dX5_leave_4 rfl rfl ?_
  refine g_get (ci := 5) (T := TX5) (N := 16) hB in_X5 rfl 0 0 3 (by decide) (by decide) rfl tw_fl_X5_19 rfl dX5_leave_5 ?_
  refine g_iload_n hB 1 dX5_leave_8 rfl rfl ?_
  refine g_aald hB 2 0 p 1 (n := 8) (by decide) rfl rfl (by first | assumption | omega) (Nat.le_of_ble_eq_true rfl) rfl dX5_leave_9 ?_
  refine g_astore_n hB 3 dX5_leave_10 rfl (by decide) ?_
  refine g_aload_n hB 3 dX5_leave_11 rfl rfl ?_
  refine g_get (ci := 4) (T := TX4) (N := 4) hB in_X4 rfl 5 p 0 (show p < 8 by first | assumption | omega) (by decide) rfl tw_fl_X5_82 rfl dX5_leave_12 ?_
  refine g_if_ne hB 28 dX5_leave_15 (by decide) (fun c_15 => ?_) (fun c_15 => ?_)
  · refine g_aload_n hB 3 dX5_leave_28 rfl rfl ?_
    refine g_iconst hB (nI 0) dX5_leave_29 rfl ?_
    refine s_put (ci := 4) (T := TX4) (N := 4) hB in_X4 rfl tyX4 tyX4_ok nmX4 5 p 0 (show p < 8 by first | assumption | omega) (by decide) rfl rfl tw_fl_X5_82 rfl rfl rfl (Nat.le_of_ble_eq_true rfl) dX5_leave_30 ?_
    refine g_iload_n hB 2 dX5_leave_33 rfl rfl ?_
    refine b_if_ne hB (b) 39 dX5_leave_34 (by decide) (fun c_34 => ?_) (fun c_34 => ?_)
    · refine g_aload_n hB 0 dX5_leave_39 rfl rfl ?_
      refine g_dup hB rfl dX5_leave_40 ?_
      refine g_get (ci := 5) (T := TX5) (N := 16) hB in_X5 rfl 0 0 11 (by decide) (by decide) rfl tw_fl_X5_91 rfl dX5_leave_41 ?_
      refine g_iconst hB (nI 1) dX5_leave_44 rfl ?_
      refine g_iadd hB dX5_leave_45 ?_
      refine s_put (ci := 5) (T := TX5) (N := 16) hB in_X5 rfl tyX5 tyX5_ok nmX5 0 0 11 (by decide) (by decide) rfl rfl tw_fl_X5_91 rfl rfl rfl (Nat.le_of_ble_eq_true rfl) dX5_leave_46 ?_
      refine g_aload_n hB 3 dX5_leave_49 rfl rfl ?_
      refine g_iconst hB (nI 1) dX5_leave_50 rfl ?_
      refine s_put (ci := 4) (T := TX4) (N := 4) hB in_X4 rfl tyX4 tyX4_ok nmX4 5 p 1 (show p < 8 by first | assumption | omega) (by decide) rfl rfl tw_fl_X5_94 rfl rfl rfl (Nat.le_of_ble_eq_true rfl) dX5_leave_51 ?_
      refine g_aload_n hB 3 dX5_leave_54 rfl rfl ?_
      refine g_aload_n hB 0 dX5_leave_55 rfl rfl ?_
      refine g_get (ci := 5) (T := TX5) (N := 16) hB in_X5 rfl 0 0 0 (by decide) (by decide) rfl tw_fl_X5_97 rfl dX5_leave_56 ?_
      refine s_put (ci := 4) (T := TX4) (N := 4) hB in_X4 rfl tyX4 tyX4_ok nmX4 5 p 2 (show p < 8 by first | assumption | omega) (by decide) rfl rfl tw_fl_X5_100 rfl rfl rfl (Nat.le_of_ble_eq_true rfl) dX5_leave_59 ?_
      refine g_aload_n hB 3 dX5_leave_62 rfl rfl ?_
      refine g_aload_n hB 0 dX5_leave_63 rfl rfl ?_
      refine g_get (ci := 5) (T := TX5) (N := 16) hB in_X5 rfl 0 0 11 (by decide) (by decide) rfl tw_fl_X5_91 rfl dX5_leave_64 ?_
      refine s_put (ci := 4) (T := TX4) (N := 4) hB in_X4 rfl tyX4 tyX4_ok nmX4 5 p 3 (show p < 8 by first | assumption | omega) (by decide) rfl rfl tw_fl_X5_103 rfl rfl rfl (Nat.le_of_ble_eq_true rfl) dX5_leave_67 ?_
      refine g_aload_n hB 0 dX5_leave_70 rfl rfl ?_
      refine g_iload_n hB 1 dX5_leave_71 rfl rfl ?_
      refine g_callVI hB (c_X5_voidWhatIsNotOld _ p ng nm nc t pa hp (KI_V h0 (fun j a b => by simp [uM_ap, a, b]) rfl (fun i j a => rfl) (fun i => rfl) (fun i => rfl))) k_X5_106 rfl yk_X5_voidWhatIsNotOld ⟨Nat.le_of_ble_eq_true rfl, Nat.le_of_ble_eq_true rfl⟩ ⟨(by decide), _, _, _, rfl, rfl, rfl⟩ rfl (Nat.le_of_ble_eq_true rfl) ⟨Nat.le_of_ble_eq_true rfl, Nat.le_of_ble_eq_true rfl⟩ dX5_leave_72 ?_
      rintro _ _ ⟨rfl, rfl⟩
      exact g_ixret hB hr rfl (Nat.le_of_ble_eq_true rfl) (Nat.le_of_ble_eq_true rfl) (⟨by simp only [leC, q_1, ip, c_15, c_34, cond_true, cond_false, decide_true, decide_false, Bool.and_true, Bool.true_and, Bool.and_false, Bool.false_and, Bool.or_true, Bool.true_or, Bool.or_false, Bool.false_or, Bool.not_true, Bool.not_false, not_true_eq_false, not_false_eq_true, ne_eq, Option.isSome], by rw [leV, c_34, ip]; rfl, by rw [leM, c_34, ip]; rfl⟩) dX5_leave_75
    · refine g_iconst hB (nI 0) dX5_leave_37 rfl ?_
      exact g_ixret hB hr rfl (Nat.le_of_ble_eq_true rfl) (Nat.le_of_ble_eq_true rfl) (⟨by simp only [leC, q_1, ip, c_15, c_34, cond_true, cond_false, decide_true, decide_false, Bool.and_true, Bool.true_and, Bool.and_false, Bool.false_and, Bool.or_true, Bool.true_or, Bool.or_false, Bool.false_or, Bool.not_true, Bool.not_false, not_true_eq_false, not_false_eq_true, ne_eq, Option.isSome], by rw [leV, c_34]; rfl, by rw [leM, c_34, ip]; rfl⟩) dX5_leave_38
  · exact g_throwS hl hB hex "the person is not in service" th_IS (List.mem_of_getElem? (i := 13) rfl) dX5_leave_18 dX5_leave_21 dX5_leave_22 dX5_leave_24 dX5_leave_27 ⟨Nat.le_of_ble_eq_true rfl, Nat.le_of_ble_eq_true rfl, Nat.le_of_ble_eq_true rfl, Nat.le_of_ble_eq_true rfl⟩ ⟨Nat.le_of_ble_eq_true rfl, Nat.le_of_ble_eq_true rfl⟩ (px2 rfl (by simp only [leC, q_1, ip, c_15, cond_true, cond_false, decide_true, decide_false, Bool.and_true, Bool.true_and, Bool.and_false, Bool.false_and, Bool.or_true, Bool.true_or, Bool.or_false, Bool.false_or, Bool.not_true, Bool.not_false, not_true_eq_false, not_false_eq_true, ne_eq, Option.isSome]))
theorem c_X5_comeBack (hl : l.stackTraces = false) (S : Mem) (x : Int32) : CXV l yX5_comeBack cX5_comeBack 3 none { frames := 7, cells := 2, slots := 12, locals := 102 } D ad CNT ca SR (SH ad ca S) [.ref (ad 0 0), .int (x)] (PMm ad ca (cbC S x) (uM S 5 (ix x) 0 (nI 1))) (PXm [xIO, xIS] (cbC S x)) := by
  refine CXV.of _ RX5 (by decide +kernel) rfl (Nat.le_of_ble_eq_true rfl) ?_
  intro p9 e9 s9 m9 a9 b9 me9 c9 A9 hB hr hex
  refine g_iload_n hB 1 dX5_comeBack_0 rfl rfl ?_
  refine g_callXSV hB hex (c_X5_requirePerson hl _ x) k_X5_79 yk_X5_requirePerson ⟨Nat.le_of_ble_eq_true rfl, Nat.le_of_ble_eq_true rfl⟩ rfl (Nat.le_of_ble_eq_true rfl) ⟨Nat.le_of_ble_eq_true rfl, Nat.le_of_ble_eq_true rfl⟩ dX5_comeBack_1 ⟨Nat.le_of_ble_eq_true rfl, Nat.le_of_ble_eq_true rfl⟩ (fun X hX => px1 hX.1 (by simp only [cbC, hX.2, cond_true, cond_false, decide_true, decide_false, Bool.and_true, Bool.true_and, Bool.and_false, Bool.false_and, Bool.or_true, Bool.true_or, Bool.or_false, Bool.false_or, Bool.not_true, Bool.not_false, not_true_eq_false, not_false_eq_true, ne_eq, Option.isSome])) ?_
  rintro _ ⟨q_1, rfl⟩
  obtain ⟨p, hp, rfl⟩ := rgB_t q_1
  have ip : ix (nI p) = p := ix_nI (by omega)
  refine g_aload_n hB 0 dX5_comeBack_4 rfl rfl ?_
  refine g_get (ci := 5) (T := TX5) (N := 16) hB in_X5 rfl 0 0 3 (by decide) (by decide) rfl tw_fl_X5_19 rfl dX5_comeBack_5 ?_
  refine g_iload_n hB 1 dX5_comeBack_8 rfl rfl ?_
  refine g_aald hB 2 0 p 1 (n := 8) (by decide) rfl rfl (by first | assumption | omega) (Nat.le_of_ble_eq_true rfl) rfl dX5_comeBack_9 ?_
  refine g_astore_n hB 2 dX5_comeBack_10 rfl (by decide) ?_
  refine g_aload_n hB 2 dX5_comeBack_11 rfl rfl ?_
  refine g_get (ci := 4) (T := TX4) (N := 4) hB in_X4 rfl 5 p 0 (show p < 8 by first | assumption | omega) (by decide) rfl tw_fl_X5_82 rfl dX5_comeBack_12 ?_
  refine g_if_ne hB 25 dX5_comeBack_15 (by decide) (fun c_15 => ?_) (fun c_15 => ?_)
  · exact g_throwS hl hB hex "the person is in service, or left under suspicion" th_IS (List.mem_of_getElem? (i := 19) rfl) dX5_comeBack_25 dX5_comeBack_28 dX5_comeBack_29 dX5_comeBack_31 dX5_comeBack_34 ⟨Nat.le_of_ble_eq_true rfl, Nat.le_of_ble_eq_true rfl, Nat.le_of_ble_eq_true rfl, Nat.le_of_ble_eq_true rfl⟩ ⟨Nat.le_of_ble_eq_true rfl, Nat.le_of_ble_eq_true rfl⟩ (px2 rfl (by simp only [cbC, q_1, ip, c_15, cond_true, cond_false, decide_true, decide_false, Bool.and_true, Bool.true_and, Bool.and_false, Bool.false_and, Bool.or_true, Bool.true_or, Bool.or_false, Bool.false_or, Bool.not_true, Bool.not_false, not_true_eq_false, not_false_eq_true, ne_eq, Option.isSome]))
  · refine g_aload_n hB 2 dX5_comeBack_18 rfl rfl ?_
    refine g_get (ci := 4) (T := TX4) (N := 4) hB in_X4 rfl 5 p 1 (show p < 8 by first | assumption | omega) (by decide) rfl tw_fl_X5_94 rfl dX5_comeBack_19 ?_
    refine g_if_eq hB 35 dX5_comeBack_22 (by decide) (fun c_22 => ?_) (fun c_22 => ?_)
    · refine g_aload_n hB 2 dX5_comeBack_35 rfl rfl ?_
      refine g_iconst hB (nI 1) dX5_comeBack_36 rfl ?_
      refine s_put (ci := 4) (T := TX4) (N := 4) hB in_X4 rfl tyX4 tyX4_ok nmX4 5 p 0 (show p < 8 by first | assumption | omega) (by decide) rfl rfl tw_fl_X5_82 rfl rfl rfl (Nat.le_of_ble_eq_true rfl) dX5_comeBack_37 ?_
      exact g_vxret hB hr (Nat.le_of_ble_eq_true rfl) (Nat.le_of_ble_eq_true rfl) (⟨by simp only [cbC, q_1, ip, c_15, c_22, cond_true, cond_false, decide_true, decide_false, Bool.and_true, Bool.true_and, Bool.and_false, Bool.false_and, Bool.or_true, Bool.true_or, Bool.or_false, Bool.false_or, Bool.not_true, Bool.not_false, not_true_eq_false, not_false_eq_true, ne_eq, Option.isSome], by rw [ip]⟩) dX5_comeBack_40
    · exact g_throwS hl hB hex "the person is in service, or left under suspicion" th_IS (List.mem_of_getElem? (i := 19) rfl) dX5_comeBack_25 dX5_comeBack_28 dX5_comeBack_29 dX5_comeBack_31 dX5_comeBack_34 ⟨Nat.le_of_ble_eq_true rfl, Nat.le_of_ble_eq_true rfl, Nat.le_of_ble_eq_true rfl, Nat.le_of_ble_eq_true rfl⟩ ⟨Nat.le_of_ble_eq_true rfl, Nat.le_of_ble_eq_true rfl⟩ (px2 rfl (by simp only [cbC, q_1, ip, c_15, c_22, cond_true, cond_false, decide_true, decide_false, Bool.and_true, Bool.true_and, Bool.and_false, Bool.false_and, Bool.or_true, Bool.true_or, Bool.or_false, Bool.false_or, Bool.not_true, Bool.not_false, not_true_eq_false, not_false_eq_true, ne_eq, Option.isSome]))
theorem c_X5_day (S : Mem) : CI l yX5_day cX5_day 1 (some .int) { frames := 0, cells := 0, slots := 0, locals := 0 } D ad CNT ca SR (SH ad ca S) [.ref (ad 0 0)] (PR ad ca (S 0 0 0) S) := by
  refine CI.of _ RX5 (by decide +kernel) rfl (Nat.le_of_ble_eq_true rfl) ?_
  intro p9 e9 s9 m9 a9 b9 me9 c9 A9 hB hr hnm9
  refine g_aload_n hB 0 dX5_day_0 rfl rfl ?_
  refine g_get (ci := 5) (T := TX5) (N := 16) hB in_X5 rfl 0 0 0 (by decide) (by decide) rfl tw_fl_X5_97 rfl dX5_day_1 ?_
  exact g_iret hB hr rfl (Nat.le_of_ble_eq_true rfl) (Nat.le_of_ble_eq_true rfl) (⟨rfl, rfl⟩) dX5_day_4
theorem c_X5_changes (S : Mem) : CI l yX5_changes cX5_changes 1 (some .int) { frames := 0, cells := 0, slots := 0, locals := 0 } D ad CNT ca SR (SH ad ca S) [.ref (ad 0 0)] (PR ad ca (S 0 0 9) S) := by
  refine CI.of _ RX5 (by decide +kernel) rfl (Nat.le_of_ble_eq_true rfl) ?_
  intro p9 e9 s9 m9 a9 b9 me9 c9 A9 hB hr hnm9
  refine g_aload_n hB 0 dX5_changes_0 rfl rfl ?_
  refine g_get (ci := 5) (T := TX5) (N := 16) hB in_X5 rfl 0 0 9 (by decide) (by decide) rfl tw_fl_X5_163 rfl dX5_changes_1 ?_
  exact g_iret hB hr rfl (Nat.le_of_ble_eq_true rfl) (Nat.le_of_ble_eq_true rfl) (⟨rfl, rfl⟩) dX5_changes_4

theorem c_X5_pass (hl : l.stackTraces = false) (S : Mem) (ng nm nc t pa : Nat) (h : KI S ng nm nc t pa) (ht60 : t + 60 < 2 ^ 20) (x : Int32) : CXI l yX5_pass cX5_pass 5 (some .int) { frames := 6, cells := 1, slots := 6, locals := 114 } D ad CNT ca SR (SH ad ca S) [.ref (ad 0 0), .int (x)] (PRm ad ca (paC x) (nI (cPassN nc nm pa (ix x) (S, 0)).2) (cPassN nc nm pa (ix x) (S, 0)).1) (PXm [xIA] (paC x)) := by
  refine CXI.of _ RX5 (by decide +kernel) rfl (Nat.le_of_ble_eq_true rfl) ?_
  intro p9 e9 s9 m9 a9 b9 me9 c9 A9 hB hr hex
  have loop : ∀ (n : Nat), n ≤ 60 → ∀ (T : Mem) (t' a : Nat), t' + n < 2 ^ 20 → KI T ng nm nc t' pa → paC x = 0 → cPassN nc nm pa n (T, a) = cPassN nc nm pa (ix x) (S, 0) → G p9 l e9 { frames := 6, cells := 1, slots := 6, locals := 114 } s9 m9 a9 b9 me9 c9 D ad A9 5 (vx_MQ b9 (va_Qi (PRm ad ca (paC x) (nI (cPassN nc nm pa (ix x) (S, 0)).2) (cPassN nc nm pa (ix x) (S, 0)).1) (fun E' t => WW D ad CNT A9 E' t.heap) A9) (vx_X (S := Unit) (fun _ => True) (fun X _ t => (PXm [xIA] (paC x)) X ∧ WW D ad CNT A9 (SH ad ca S) t.heap) A9) a9 s9 1 6 A9) 0 0 CNT (SH ad ca (T)) 27 [(0, .ref (ad 0 0)), (1, .int (x)), (2, .int (nI a)), (3, .int (lI n))] [] := by
    intro n
    induction n with
    | zero =>
      intro hn T t' a h1 h2 h3 h4
      refine g_iload_n hB 3 dX5_pass_27 rfl rfl ?_
      refine g_if_lt hB 83 dX5_pass_28 (by decide) (fun _ => ?_) (fun z => absurd (by decide) z)
      refine g_iload_n hB 2 dX5_pass_83 rfl rfl ?_
      exact g_ixret hB hr rfl (Nat.le_of_ble_eq_true rfl) (Nat.le_of_ble_eq_true rfl) (⟨h3, by rw [← h4]; rfl, by rw [← h4]; rfl⟩) dX5_pass_84
    | succ n ih =>
      intro hn T t' a h1 h2 h3 h4
      have hK := KI_day (n := 1) h2 (by omega)
      have hD := KI_8 (T := (cDay (uM T 0 0 0 (T 0 0 0 + nI 1)) nc nm pa).1) hK (fun k i hk => by unfold cDay; exact cSts_fr hk i nm)
      have hle := cDay_le (S := uM T 0 0 0 (T 0 0 0 + nI 1)) (nc := nc) (nm := nm) (pa := pa)
      have hnm := h2.2.1.2
      rw [cPassN] at h4
      dsimp only at h4
      refine g_iload_n hB 3 dX5_pass_27 rfl rfl ?_
      refine n_if_lt (tgt := 83) hB _ dX5_pass_28 (by decide) (by omega) ?_
      refine g_aload_n hB 0 dX5_pass_31 rfl rfl ?_
      refine g_dup hB rfl dX5_pass_32 ?_
      refine g_get (ci := 5) (T := TX5) (N := 16) hB in_X5 rfl 0 0 0 (by decide) (by decide) rfl tw_fl_X5_97 rfl dX5_pass_33 ?_
      refine g_iconst hB (nI 1) dX5_pass_36 rfl ?_
      refine g_iadd hB dX5_pass_37 ?_
      refine s_put (ci := 5) (T := TX5) (N := 16) hB in_X5 rfl tyX5 tyX5_ok nmX5 0 0 0 (by decide) (by decide) rfl rfl tw_fl_X5_97 rfl rfl rfl (Nat.le_of_ble_eq_true rfl) dX5_pass_38 ?_
      refine g_aload_n hB 0 dX5_pass_41 rfl rfl ?_
      refine g_callVI hB (c_X5_stepMachines _ ng nm nc (t' + 1) pa hK) k_X5_114 rfl yk_X5_stepMachines ⟨Nat.le_of_ble_eq_true rfl, Nat.le_of_ble_eq_true rfl⟩ ⟨(by decide), _, _, _, rfl, rfl, rfl⟩ rfl (Nat.le_of_ble_eq_true rfl) ⟨Nat.le_of_ble_eq_true rfl, Nat.le_of_ble_eq_true rfl⟩ dX5_pass_42 ?_
      rintro _ _ ⟨rfl, rfl⟩
      refine g_istore hB 4 dX5_pass_45 (by decide) ?_
      refine g_iload_n hB 2 dX5_pass_47 rfl rfl ?_
      refine g_iload hB 4 dX5_pass_48 rfl ?_
      refine g_iadd hB dX5_pass_50 ?_
      refine g_top (nI (a + (cDay (uM T 0 0 0 (T 0 0 0 + nI 1)) nc nm pa).2)) (nI_add _ _) ?_
      refine g_istore_n hB 2 dX5_pass_51 rfl (by decide) ?_
      refine g_iload hB 4 dX5_pass_52 rfl ?_
      refine g_if_ne hB 77 dX5_pass_54 (by decide) (fun c_54 => ?_) (fun c_54 => ?_)
      · have e : decide ((cDay (uM T 0 0 0 (T 0 0 0 + nI 1)) nc nm pa).2 = 0) = false := decide_eq_false (fun z => c_54 (by rw [z]; rfl))
        rw [e] at h4
        refine g_iinc hB ((lI n)) dX5_pass_77 rfl (lI_pred n) (by decide) ?_
        refine g_goto hB 27 dX5_pass_80 (by decide) ?_
        exact g_sub _ rfl (ih (by omega) _ (t' + 1) _ (by omega) hD h3 h4)
      · have e : decide ((cDay (uM T 0 0 0 (T 0 0 0 + nI 1)) nc nm pa).2 = 0) = true := decide_eq_true ((nI_eq (by omega) (by omega)).mp c_54)
        rw [e] at h4
        refine g_aload_n hB 0 dX5_pass_57 rfl rfl ?_
        refine g_callVI hB (c_X5_isAnyBusy _ nm hD.2.1.1 hnm) k_X5_118 rfl yk_X5_isAnyBusy ⟨Nat.le_of_ble_eq_true rfl, Nat.le_of_ble_eq_true rfl⟩ ⟨(by decide), _, _, _, rfl, rfl, rfl⟩ rfl (Nat.le_of_ble_eq_true rfl) ⟨Nat.le_of_ble_eq_true rfl, Nat.le_of_ble_eq_true rfl⟩ dX5_pass_58 ?_
        rintro _ _ ⟨rfl, rfl⟩
        refine b_if_ne hB (cBusy (cDay (uM T 0 0 0 (T 0 0 0 + nI 1)) nc nm pa).1 nm) 77 dX5_pass_61 (by decide) (fun c_61 => ?_) (fun c_61 => ?_)
        · rw [c_61] at h4
          refine g_iinc hB ((lI n)) dX5_pass_77 rfl (lI_pred n) (by decide) ?_
          refine g_goto hB 27 dX5_pass_80 (by decide) ?_
          exact g_sub _ rfl (ih (by omega) _ (t' + 1) _ (by omega) hD h3 h4)
        · rw [c_61] at h4
          refine g_aload_n hB 0 dX5_pass_64 rfl rfl ?_
          refine g_dup hB rfl dX5_pass_65 ?_
          refine g_get (ci := 5) (T := TX5) (N := 16) hB in_X5 rfl 0 0 0 (by decide) (by decide) rfl tw_fl_X5_97 rfl dX5_pass_66 ?_
          refine g_iload_n hB 3 dX5_pass_69 rfl rfl ?_
          refine g_iadd hB dX5_pass_70 ?_
          refine s_put (ci := 5) (T := TX5) (N := 16) hB in_X5 rfl tyX5 tyX5_ok nmX5 0 0 0 (by decide) (by decide) rfl rfl tw_fl_X5_97 rfl rfl rfl (Nat.le_of_ble_eq_true rfl) dX5_pass_71 ?_
          refine g_goto hB 83 dX5_pass_74 (by decide) ?_
          refine g_iload_n hB 2 dX5_pass_83 rfl rfl ?_
          exact g_ixret hB hr rfl (Nat.le_of_ble_eq_true rfl) (Nat.le_of_ble_eq_true rfl) (⟨h3, by rw [← h4]; rfl, by rw [← h4]; rfl⟩) dX5_pass_84
  refine g_iload_n hB 1 dX5_pass_0 rfl rfl ?_
  refine g_iconst hB (nI 1) dX5_pass_1 rfl ?_
  refine g_icmp_lt hB 11 dX5_pass_2 (by decide) (fun c_2 => ?_) (fun c_2 => ?_)
  · have e : paC x = 1 := by unfold paC; rw [i32_lt, toInt_nI (by omega)] at c_2; rw [decide_eq_false (by omega)]; rfl
    exact g_throwS hl hB hex "days is out of range" th_IA (List.mem_of_getElem? (i := 0) rfl) dX5_pass_11 dX5_pass_14 dX5_pass_15 dX5_pass_17 dX5_pass_20 ⟨Nat.le_of_ble_eq_true rfl, Nat.le_of_ble_eq_true rfl, Nat.le_of_ble_eq_true rfl, Nat.le_of_ble_eq_true rfl⟩ ⟨Nat.le_of_ble_eq_true rfl, Nat.le_of_ble_eq_true rfl⟩ (px1 rfl e)
  · refine g_iload_n hB 1 dX5_pass_5 rfl rfl ?_
    refine g_bipush hB (nI 60) dX5_pass_6 rfl ?_
    refine g_icmp_le hB 21 dX5_pass_8 (by decide) (fun c_8 => ?_) (fun c_8 => ?_)
    · have e : paC x = 0 := by unfold paC; rw [i32_lt, toInt_nI (by omega)] at c_2; rw [i32_le, toInt_nI (by omega)] at c_8; rw [decide_eq_true (by omega)]; rfl
      obtain ⟨n, hn, rfl⟩ : ∃ n, n ≤ 60 ∧ x = nI n := by
        rw [i32_lt, toInt_nI (by omega)] at c_2; rw [i32_le, toInt_nI (by omega)] at c_8
        exact ⟨x.toInt.toNat, by omega, by rw [i32_eq, toInt_nI (by omega)]; omega⟩
      have ij : ix (nI n) = n := ix_nI (by omega)
      refine g_iconst hB (nI 0) dX5_pass_21 rfl ?_
      refine g_istore_n hB 2 dX5_pass_22 rfl (by decide) ?_
      refine g_iload_n hB 1 dX5_pass_23 rfl rfl ?_
      refine g_iconst hB (nI 1) dX5_pass_24 rfl ?_
      refine g_isub hB dX5_pass_25 ?_
      refine g_top ((lI n)) (lI_sub n) ?_
      refine g_istore_n hB 3 dX5_pass_26 rfl (by decide) ?_
      exact g_sub _ rfl (loop n hn S t 0 (by omega) h e (by rw [ij]))
    · have e : paC x = 1 := by unfold paC; rw [i32_le, toInt_nI (by omega)] at c_8; rw [decide_eq_false (by omega)]; rfl
      exact g_throwS hl hB hex "days is out of range" th_IA (List.mem_of_getElem? (i := 0) rfl) dX5_pass_11 dX5_pass_14 dX5_pass_15 dX5_pass_17 dX5_pass_20 ⟨Nat.le_of_ble_eq_true rfl, Nat.le_of_ble_eq_true rfl, Nat.le_of_ble_eq_true rfl, Nat.le_of_ble_eq_true rfl⟩ ⟨Nat.le_of_ble_eq_true rfl, Nat.le_of_ble_eq_true rfl⟩ (px1 rfl e)
theorem c_X5_addGroup (hl : l.stackTraces = false) (S : Mem) (ng nm nc t pa : Nat) (h : KI S ng nm nc t pa) (x : Int32) : CXI l yX5_addGroup cX5_addGroup 3 (some .int) { frames := 7, cells := 2, slots := 12, locals := 103 } D ad CNT ca SR (SH ad ca S) [.ref (ad 0 0), .int (x)] (PRm ad ca (agC x ng) (nI ng) (uM (uM S 1 1 ng x) 0 0 5 (nI (ng + 1)))) (PXm [xIO, xIS] (agC x ng)) := by
  have h0 := h
  obtain ⟨⟨hg, hng0, hng⟩, ⟨hm, hnm⟩, ⟨hc, hnc⟩, ⟨ht, htb⟩, ⟨hpa, hpab⟩, hpar, hmk, hcell, hown⟩ := h
  refine CXI.of _ RX5 (by decide +kernel) rfl (Nat.le_of_ble_eq_true rfl) ?_
  intro p9 e9 s9 m9 a9 b9 me9 c9 A9 hB hr hex
  refine g_aload_n hB 0 dX5_addGroup_0 rfl rfl ?_
  refine g_iload_n hB 1 dX5_addGroup_1 rfl rfl ?_
  refine g_callXVV hB hex (c_X5_requireGroup hl _ x ng hg hng) k_X5_122 rfl yk_X5_requireGroup ⟨Nat.le_of_ble_eq_true rfl, Nat.le_of_ble_eq_true rfl⟩ ⟨(by decide), _, _, _, rfl, rfl, rfl⟩ rfl (Nat.le_of_ble_eq_true rfl) ⟨Nat.le_of_ble_eq_true rfl, Nat.le_of_ble_eq_true rfl⟩ dX5_addGroup_2 ⟨Nat.le_of_ble_eq_true rfl, Nat.le_of_ble_eq_true rfl⟩ (fun X hX => px1 hX.1 (by simp only [agC, hX.2, cond_true, cond_false, decide_true, decide_false, Bool.and_true, Bool.true_and, Bool.and_false, Bool.false_and, Bool.or_true, Bool.true_or, Bool.or_false, Bool.false_or, Bool.not_true, Bool.not_false, not_true_eq_false, not_false_eq_true, ne_eq, Option.isSome])) ?_
  rintro _ ⟨q_2, rfl⟩
  obtain ⟨gg, hgg, rfl⟩ := rgB_t q_2
  have igg : ix (nI gg) = gg := ix_nI (by omega)
  refine g_aload_n hB 0 dX5_addGroup_5 rfl rfl ?_
  refine g_get (ci := 5) (T := TX5) (N := 16) hB in_X5 rfl 0 0 5 (by decide) (by decide) rfl tw_fl_X5_26 rfl dX5_addGroup_6 ?_
  refine g_top (nI ng) (hg) ?_
  refine g_bipush hB (nI 10) dX5_addGroup_9 rfl ?_
  refine n_icmp_lt hB ng 10 24 dX5_addGroup_11 (by decide) (by omega) (by omega) (fun c_11 => ?_) (fun c_11 => ?_)
  · have e : decide (10 ≤ ng) = false := decide_eq_false (by omega)
    refine g_aload_n hB 0 dX5_addGroup_24 rfl rfl ?_
    refine g_get (ci := 5) (T := TX5) (N := 16) hB in_X5 rfl 0 0 5 (by decide) (by decide) rfl tw_fl_X5_26 rfl dX5_addGroup_25 ?_
    refine g_top (nI ng) (hg) ?_
    refine g_istore_n hB 2 dX5_addGroup_28 rfl (by decide) ?_
    refine g_aload_n hB 0 dX5_addGroup_29 rfl rfl ?_
    refine g_get (ci := 5) (T := TX5) (N := 16) hB in_X5 rfl 0 0 4 (by decide) (by decide) rfl tw_fl_X5_23 rfl dX5_addGroup_30 ?_
    refine g_iload_n hB 2 dX5_addGroup_33 rfl rfl ?_
    refine g_iload_n hB 1 dX5_addGroup_34 rfl rfl ?_
    refine s_iast hB 1 1 ng (n := 10) (by decide) (fun _ => rfl) (by first | assumption | omega) (Nat.le_of_ble_eq_true rfl) dX5_addGroup_35 ?_
    refine g_aload_n hB 0 dX5_addGroup_36 rfl rfl ?_
    refine g_dup hB rfl dX5_addGroup_37 ?_
    refine g_get (ci := 5) (T := TX5) (N := 16) hB in_X5 rfl 0 0 5 (by decide) (by decide) rfl tw_fl_X5_26 rfl dX5_addGroup_38 ?_
    refine g_top (nI ng) (hg) ?_
    refine g_iconst hB (nI 1) dX5_addGroup_41 rfl ?_
    refine g_iadd hB dX5_addGroup_42 ?_
    refine g_top (nI (ng + 1)) (nI_add _ _) ?_
    refine s_put (ci := 5) (T := TX5) (N := 16) hB in_X5 rfl tyX5 tyX5_ok nmX5 0 0 5 (by decide) (by decide) rfl rfl tw_fl_X5_26 rfl rfl rfl (Nat.le_of_ble_eq_true rfl) dX5_addGroup_43 ?_
    refine g_iload_n hB 2 dX5_addGroup_46 rfl rfl ?_
    exact g_ixret hB hr rfl (Nat.le_of_ble_eq_true rfl) (Nat.le_of_ble_eq_true rfl) (⟨by simp only [agC, q_2, igg, c_11, e, cond_true, cond_false, decide_true, decide_false, Bool.and_true, Bool.true_and, Bool.and_false, Bool.false_and, Bool.or_true, Bool.true_or, Bool.or_false, Bool.false_or, Bool.not_true, Bool.not_false, not_true_eq_false, not_false_eq_true, ne_eq, Option.isSome], rfl, rfl⟩) dX5_addGroup_47
  · have e : decide (10 ≤ ng) = true := decide_eq_true (by omega)
    exact g_throwS hl hB hex "there are 10 groups" th_IS (List.mem_of_getElem? (i := 2) rfl) dX5_addGroup_14 dX5_addGroup_17 dX5_addGroup_18 dX5_addGroup_20 dX5_addGroup_23 ⟨Nat.le_of_ble_eq_true rfl, Nat.le_of_ble_eq_true rfl, Nat.le_of_ble_eq_true rfl, Nat.le_of_ble_eq_true rfl⟩ ⟨Nat.le_of_ble_eq_true rfl, Nat.le_of_ble_eq_true rfl⟩ (px2 rfl (by simp only [agC, q_2, igg, c_11, e, cond_true, cond_false, decide_true, decide_false, Bool.and_true, Bool.true_and, Bool.and_false, Bool.false_and, Bool.or_true, Bool.true_or, Bool.or_false, Bool.false_or, Bool.not_true, Bool.not_false, not_true_eq_false, not_false_eq_true, ne_eq, Option.isSome]))
theorem c_X5_setPace (hl : l.stackTraces = false) (S : Mem) (x : Int32) : CXI l yX5_setPace cX5_setPace 3 (some .int) { frames := 6, cells := 1, slots := 6, locals := 82 } D ad CNT ca SR (SH ad ca S) [.ref (ad 0 0), .int (x)] (PRm ad ca (spC x) (S 0 0 1) (uM S 0 0 1 x)) (PXm [xIA] (spC x)) := by
  refine CXI.of _ RX5 (by decide +kernel) rfl (Nat.le_of_ble_eq_true rfl) ?_
  intro p9 e9 s9 m9 a9 b9 me9 c9 A9 hB hr hex
  refine g_iload_n hB 1 dX5_setPace_0 rfl rfl ?_
  refine g_if_lt hB 10 dX5_setPace_1 (by decide) (fun c_1 => ?_) (fun c_1 => ?_)
  · have e : spC x = 1 := by unfold spC; rw [rg1 c_1]; rfl
    exact g_throwS hl hB hex "machines is out of range" th_IA (List.mem_of_getElem? (i := 18) rfl) dX5_setPace_10 dX5_setPace_13 dX5_setPace_14 dX5_setPace_16 dX5_setPace_19 ⟨Nat.le_of_ble_eq_true rfl, Nat.le_of_ble_eq_true rfl, Nat.le_of_ble_eq_true rfl, Nat.le_of_ble_eq_true rfl⟩ ⟨Nat.le_of_ble_eq_true rfl, Nat.le_of_ble_eq_true rfl⟩ (px1 rfl e)
  · refine g_iload_n hB 1 dX5_setPace_4 rfl rfl ?_
    refine g_bipush hB (nI 12) dX5_setPace_5 rfl ?_
    refine g_icmp_le hB 20 dX5_setPace_7 (by decide) (fun c_7 => ?_) (fun c_7 => ?_)
    · have e : spC x = 0 := by unfold spC; rw [show rgB x 13 = true from by unfold rgB; rw [i32_le, toInt_nI (by omega)] at c_7; rw [i32_lt] at c_1; have z : (0 : Int32).toInt = 0 := rfl; exact decide_eq_true (by omega)]; rfl
      refine g_aload_n hB 0 dX5_setPace_20 rfl rfl ?_
      refine g_get (ci := 5) (T := TX5) (N := 16) hB in_X5 rfl 0 0 1 (by decide) (by decide) rfl tw_fl_X5_9 rfl dX5_setPace_21 ?_
      refine g_istore_n hB 2 dX5_setPace_24 rfl (by decide) ?_
      refine g_aload_n hB 0 dX5_setPace_25 rfl rfl ?_
      refine g_iload_n hB 1 dX5_setPace_26 rfl rfl ?_
      refine s_put (ci := 5) (T := TX5) (N := 16) hB in_X5 rfl tyX5 tyX5_ok nmX5 0 0 1 (by decide) (by decide) rfl rfl tw_fl_X5_9 rfl rfl rfl (Nat.le_of_ble_eq_true rfl) dX5_setPace_27 ?_
      refine g_iload_n hB 2 dX5_setPace_30 rfl rfl ?_
      exact g_ixret hB hr rfl (Nat.le_of_ble_eq_true rfl) (Nat.le_of_ble_eq_true rfl) (⟨e, rfl, rfl⟩) dX5_setPace_31
    · have e : spC x = 1 := by unfold spC; rw [show rgB x 13 = false from by unfold rgB; refine decide_eq_false (fun z => c_7 ?_); rw [i32_le, toInt_nI (by omega)]; omega]; rfl
      exact g_throwS hl hB hex "machines is out of range" th_IA (List.mem_of_getElem? (i := 18) rfl) dX5_setPace_10 dX5_setPace_13 dX5_setPace_14 dX5_setPace_16 dX5_setPace_19 ⟨Nat.le_of_ble_eq_true rfl, Nat.le_of_ble_eq_true rfl, Nat.le_of_ble_eq_true rfl, Nat.le_of_ble_eq_true rfl⟩ ⟨Nat.le_of_ble_eq_true rfl, Nat.le_of_ble_eq_true rfl⟩ (px1 rfl e)
theorem c_X5_isBusy (hl : l.stackTraces = false) (S : Mem) (ng nm nc t pa : Nat) (h : KI S ng nm nc t pa) (x : Int32) : CXI l yX5_isBusy cX5_isBusy 2 (some .boolean) { frames := 7, cells := 1, slots := 6, locals := 103 } D ad CNT ca SR (SH ad ca S) [.ref (ad 0 0), .int (x)] (PRm ad ca (rqC x nm) (bI (decide (S 0 0 0 < S 6 (ix x) 2))) (S)) (PXm [xIO] (rqC x nm)) := by
  have h0 := h
  obtain ⟨⟨hg, hng0, hng⟩, ⟨hm, hnm⟩, ⟨hc, hnc⟩, ⟨ht, htb⟩, ⟨hpa, hpab⟩, hpar, hmk, hcell, hown⟩ := h
  refine CXI.of _ RX5 (by decide +kernel) rfl (Nat.le_of_ble_eq_true rfl) ?_
  intro p9 e9 s9 m9 a9 b9 me9 c9 A9 hB hr hex
  refine g_aload_n hB 0 dX5_isBusy_0 rfl rfl ?_
  refine g_iload_n hB 1 dX5_isBusy_1 rfl rfl ?_
  refine g_callXVV hB hex (c_X5_requireMachine hl _ x nm hm hnm) k_X5_136 rfl yk_X5_requireMachine ⟨Nat.le_of_ble_eq_true rfl, Nat.le_of_ble_eq_true rfl⟩ ⟨(by decide), _, _, _, rfl, rfl, rfl⟩ rfl (Nat.le_of_ble_eq_true rfl) ⟨Nat.le_of_ble_eq_true rfl, Nat.le_of_ble_eq_true rfl⟩ dX5_isBusy_2 ⟨Nat.le_of_ble_eq_true rfl, Nat.le_of_ble_eq_true rfl⟩ (fun X hX => px1 hX.1 (by simp only [rqC, hX.2, cond_true, cond_false, decide_true, decide_false, Bool.and_true, Bool.true_and, Bool.and_false, Bool.false_and, Bool.or_true, Bool.true_or, Bool.or_false, Bool.false_or, Bool.not_true, Bool.not_false, not_true_eq_false, not_false_eq_true, ne_eq, Option.isSome])) ?_
  rintro _ ⟨q_2, rfl⟩
  obtain ⟨i, hi, rfl⟩ := rgB_t q_2
  have ii : ix (nI i) = i := ix_nI (by omega)
  refine g_aload_n hB 0 dX5_isBusy_5 rfl rfl ?_
  refine g_get (ci := 5) (T := TX5) (N := 16) hB in_X5 rfl 0 0 6 (by decide) (by decide) rfl tw_fl_X5_31 rfl dX5_isBusy_6 ?_
  refine g_iload_n hB 1 dX5_isBusy_9 rfl rfl ?_
  refine g_aald hB 3 0 i 2 (n := 12) (by decide) rfl rfl (by first | assumption | omega) (Nat.le_of_ble_eq_true rfl) rfl dX5_isBusy_10 ?_
  refine g_get (ci := 2) (T := TX2) (N := 6) hB in_X2 rfl 6 i 2 (show i < 12 by first | assumption | omega) (by decide) rfl tw_fl_X5_139 rfl dX5_isBusy_11 ?_
  refine g_aload_n hB 0 dX5_isBusy_14 rfl rfl ?_
  refine g_get (ci := 5) (T := TX5) (N := 16) hB in_X5 rfl 0 0 0 (by decide) (by decide) rfl tw_fl_X5_97 rfl dX5_isBusy_15 ?_
  refine g_icmp_le hB 25 dX5_isBusy_18 (by decide) (fun c_18 => ?_) (fun c_18 => ?_)
  · have e : decide (S 0 0 0 < S 6 i 2) = false := decide_eq_false (Int32.not_lt.mpr c_18)
    refine g_iconst hB (nI 0) dX5_isBusy_25 rfl ?_
    exact g_ixret hB hr rfl (Nat.le_of_ble_eq_true rfl) (Nat.le_of_ble_eq_true rfl) (⟨by simp only [rqC, q_2, ii, c_18, cond_true, cond_false, decide_true, decide_false, Bool.and_true, Bool.true_and, Bool.and_false, Bool.false_and, Bool.or_true, Bool.true_or, Bool.or_false, Bool.false_or, Bool.not_true, Bool.not_false, not_true_eq_false, not_false_eq_true, ne_eq, Option.isSome], by rw [ii, e]; rfl, rfl⟩) dX5_isBusy_26
  · have e : decide (S 0 0 0 < S 6 i 2) = true := decide_eq_true (Int32.not_le.mp c_18)
    refine g_iconst hB (nI 1) dX5_isBusy_21 rfl ?_
    refine g_goto hB 26 dX5_isBusy_22 (by decide) ?_
    exact g_ixret hB hr rfl (Nat.le_of_ble_eq_true rfl) (Nat.le_of_ble_eq_true rfl) (⟨by simp only [rqC, q_2, ii, c_18, cond_true, cond_false, decide_true, decide_false, Bool.and_true, Bool.true_and, Bool.and_false, Bool.false_and, Bool.or_true, Bool.true_or, Bool.or_false, Bool.false_or, Bool.not_true, Bool.not_false, not_true_eq_false, not_false_eq_true, ne_eq, Option.isSome], by rw [ii, e]; rfl, rfl⟩) dX5_isBusy_26
theorem c_X5_isStopped (hl : l.stackTraces = false) (S : Mem) (ng nm nc t pa : Nat) (h : KI S ng nm nc t pa) (x : Int32) : CXI l yX5_isStopped cX5_isStopped 2 (some .boolean) { frames := 7, cells := 1, slots := 6, locals := 103 } D ad CNT ca SR (SH ad ca S) [.ref (ad 0 0), .int (x)] (PRm ad ca (rqC x nm) (bI (cNear S nc (ix x) (clay S (ix x))).isSome) (S)) (PXm [xIO] (rqC x nm)) := by
  have h0 := h
  obtain ⟨⟨hg, hng0, hng⟩, ⟨hm, hnm⟩, ⟨hc, hnc⟩, ⟨ht, htb⟩, ⟨hpa, hpab⟩, hpar, hmk, hcell, hown⟩ := h
  refine CXI.of _ RX5 (by decide +kernel) rfl (Nat.le_of_ble_eq_true rfl) ?_
  intro p9 e9 s9 m9 a9 b9 me9 c9 A9 hB hr hex
  refine g_aload_n hB 0 dX5_isStopped_0 rfl rfl ?_
  refine g_iload_n hB 1 dX5_isStopped_1 rfl rfl ?_
  refine g_callXVV hB hex (c_X5_requireMachine hl _ x nm hm hnm) k_X5_136 rfl yk_X5_requireMachine ⟨Nat.le_of_ble_eq_true rfl, Nat.le_of_ble_eq_true rfl⟩ ⟨(by decide), _, _, _, rfl, rfl, rfl⟩ rfl (Nat.le_of_ble_eq_true rfl) ⟨Nat.le_of_ble_eq_true rfl, Nat.le_of_ble_eq_true rfl⟩ dX5_isStopped_2 ⟨Nat.le_of_ble_eq_true rfl, Nat.le_of_ble_eq_true rfl⟩ (fun X hX => px1 hX.1 (by simp only [rqC, hX.2, cond_true, cond_false, decide_true, decide_false, Bool.and_true, Bool.true_and, Bool.and_false, Bool.false_and, Bool.or_true, Bool.true_or, Bool.or_false, Bool.false_or, Bool.not_true, Bool.not_false, not_true_eq_false, not_false_eq_true, ne_eq, Option.isSome])) ?_
  rintro _ ⟨q_2, rfl⟩
  obtain ⟨i, hi, rfl⟩ := rgB_t q_2
  have ii : ix (nI i) = i := ix_nI (by omega)
  refine g_aload_n hB 0 dX5_isStopped_5 rfl rfl ?_
  refine g_aload_n hB 0 dX5_isStopped_6 rfl rfl ?_
  refine g_get (ci := 5) (T := TX5) (N := 16) hB in_X5 rfl 0 0 6 (by decide) (by decide) rfl tw_fl_X5_31 rfl dX5_isStopped_7 ?_
  refine g_iload_n hB 1 dX5_isStopped_10 rfl rfl ?_
  refine g_aald hB 3 0 i 2 (n := 12) (by decide) rfl rfl (by first | assumption | omega) (Nat.le_of_ble_eq_true rfl) rfl dX5_isStopped_11 ?_
  refine g_callVI hB (c_X5_nearestLayerNotHeld _ nc hc hnc i (by omega) _ (hmk i hi)) k_X5_147 rfl yk_X5_nearestLayerNotHeld ⟨Nat.le_of_ble_eq_true rfl, Nat.le_of_ble_eq_true rfl⟩ ⟨(by decide), _, _, _, rfl, rfl, rfl⟩ rfl (Nat.le_of_ble_eq_true rfl) ⟨Nat.le_of_ble_eq_true rfl, Nat.le_of_ble_eq_true rfl⟩ dX5_isStopped_12 ?_
  rintro _ _ ⟨rfl, rfl⟩
  have hL := hmk i hi
  refine g_iconst hB (-1) dX5_isStopped_15 rfl ?_
  refine g_icmp_eq hB 23 dX5_isStopped_16 (by decide) (fun c_16 => ?_) (fun c_16 => ?_)
  · have e : cNear S nc i (clay S i) = none := (oI_m1 (fun c hc => by have := (fstN_some.mp hc).1; have := hL.2.1; omega)).mp c_16
    refine g_iconst hB (nI 0) dX5_isStopped_23 rfl ?_
    exact g_ixret hB hr rfl (Nat.le_of_ble_eq_true rfl) (Nat.le_of_ble_eq_true rfl) (⟨by simp only [rqC, q_2, ii, c_16, cond_true, cond_false, decide_true, decide_false, Bool.and_true, Bool.true_and, Bool.and_false, Bool.false_and, Bool.or_true, Bool.true_or, Bool.or_false, Bool.false_or, Bool.not_true, Bool.not_false, not_true_eq_false, not_false_eq_true, ne_eq, Option.isSome], by rw [ii, e]; rfl, rfl⟩) dX5_isStopped_24
  · obtain ⟨j, e⟩ : ∃ j, cNear S nc i (clay S i) = some j := by
      cases hd : cNear S nc i (clay S i) with
      | none => rw [hd] at c_16; exact absurd rfl c_16
      | some d => exact ⟨d, rfl⟩
    refine g_iconst hB (nI 1) dX5_isStopped_19 rfl ?_
    refine g_goto hB 24 dX5_isStopped_20 (by decide) ?_
    exact g_ixret hB hr rfl (Nat.le_of_ble_eq_true rfl) (Nat.le_of_ble_eq_true rfl) (⟨by simp only [rqC, q_2, ii, c_16, cond_true, cond_false, decide_true, decide_false, Bool.and_true, Bool.true_and, Bool.and_false, Bool.false_and, Bool.or_true, Bool.true_or, Bool.or_false, Bool.false_or, Bool.not_true, Bool.not_false, not_true_eq_false, not_false_eq_true, ne_eq, Option.isSome], by rw [ii, e]; rfl, rfl⟩) dX5_isStopped_24
end X7
