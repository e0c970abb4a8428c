/-! the public methods: machines, changes -/
section X8
variable {l : Launch} {D : va_G} {ad : Nat → Nat → Nat} {ca : Nat → ClassId}
def amM (S : Mem) (nm g : Nat) : Mem := uM (egM S nm (10 + nm) g) 0 0 7 (nI (nm + 1))
def ownS (i : Nat) : Nat := 10 + i
theorem egM_0 {S : Mem} {i own g : Nat} : egM S i own g 0 = S 0 := by
  funext a
  unfold egM EM
  first
    | rfl
    | (simp only [uS_ap, uM]; rfl)
theorem c_X5_addMachine (hl : l.stackTraces = false) (S : Mem) (ng nm nc t pa : Nat) (h : KI S ng nm nc t pa) (x : Int32) : CXI l yX5_addMachine cX5_addMachine 3 (some .int) { frames := 7, cells := 2, slots := 12, locals := 110 } D ad CNT ca SR (SH ad ca S) [.ref (ad 0 0), .int (x)] (PRm ad ca (amC x ng nm) (nI nm) (amM S nm (ix x))) (PXm [xIO, xIS] (amC x ng nm)) := by
  have h0 := h
  obtain ⟨⟨hg, hng0, hng⟩, ⟨hm, hnm⟩, ⟨hc, hnc⟩, ⟨ht, htb⟩, ⟨hpa, hpab⟩, hpar, hmk, hcell, hown⟩ := h
  refine CXI.of _ RX5 (by decide +kernel) rfl (Nat.le_of_ble_eq_true rfl) ?_
  intro p9 e9 s9 m9 a9 b9 me9 c9 A9 hB hr hex
  refine g_aload_n hB 0 dX5_addMachine_0 rfl rfl ?_
  refine g_iload_n hB 1 dX5_addMachine_1 rfl rfl ?_
  refine g_callXVV hB hex (c_X5_requireGroup hl _ x ng hg hng) k_X5_122 rfl yk_X5_requireGroup ⟨Nat.le_of_ble_eq_true rfl, Nat.le_of_ble_eq_true rfl⟩ ⟨(by decide), _, _, _, rfl, rfl, rfl⟩ rfl (Nat.le_of_ble_eq_true rfl) ⟨Nat.le_of_ble_eq_true rfl, Nat.le_of_ble_eq_true rfl⟩ dX5_addMachine_2 ⟨Nat.le_of_ble_eq_true rfl, Nat.le_of_ble_eq_true rfl⟩ (fun X hX => px1 hX.1 (by simp only [amC, hX.2, cond_true, cond_false, decide_true, decide_false, Bool.and_true, Bool.true_and, Bool.and_false, Bool.false_and, Bool.or_true, Bool.true_or, Bool.or_false, Bool.false_or, Bool.not_true, Bool.not_false, not_true_eq_false, not_false_eq_true, ne_eq, Option.isSome])) ?_
  rintro _ ⟨q_2, rfl⟩
  obtain ⟨gg, hgg, rfl⟩ := rgB_t q_2
  have igg : ix (nI gg) = gg := ix_nI (by omega)
  refine g_aload_n hB 0 dX5_addMachine_5 rfl rfl ?_
  refine g_get (ci := 5) (T := TX5) (N := 16) hB in_X5 rfl 0 0 7 (by decide) (by decide) rfl tw_fl_X5_127 rfl dX5_addMachine_6 ?_
  refine g_top (nI nm) (hm) ?_
  refine g_bipush hB (nI 12) dX5_addMachine_9 rfl ?_
  refine n_icmp_lt hB nm 12 24 dX5_addMachine_11 (by decide) (by omega) (by omega) (fun c_11 => ?_) (fun c_11 => ?_)
  · have e : decide (12 ≤ nm) = false := decide_eq_false (by omega)
    refine g_aload_n hB 0 dX5_addMachine_24 rfl rfl ?_
    refine g_get (ci := 5) (T := TX5) (N := 16) hB in_X5 rfl 0 0 7 (by decide) (by decide) rfl tw_fl_X5_127 rfl dX5_addMachine_25 ?_
    refine g_top (nI nm) (hm) ?_
    refine g_istore_n hB 2 dX5_addMachine_28 rfl (by decide) ?_
    refine g_aload_n hB 0 dX5_addMachine_29 rfl rfl ?_
    refine g_get (ci := 5) (T := TX5) (N := 16) hB in_X5 rfl 0 0 6 (by decide) (by decide) rfl tw_fl_X5_31 rfl dX5_addMachine_30 ?_
    refine g_iload_n hB 2 dX5_addMachine_33 rfl rfl ?_
    refine g_aald hB 3 0 nm 2 (n := 12) (by decide) rfl rfl (by first | assumption | omega) (Nat.le_of_ble_eq_true rfl) rfl dX5_addMachine_34 ?_
    refine g_iload_n hB 1 dX5_addMachine_35 rfl rfl ?_
    refine g_aload_n hB 0 dX5_addMachine_36 rfl rfl ?_
    refine g_get (ci := 5) (T := TX5) (N := 16) hB in_X5 rfl 0 0 4 (by decide) (by decide) rfl tw_fl_X5_23 rfl dX5_addMachine_37 ?_
    refine g_callVV hB (c_X2_enterGroup _ nm (10 + nm) gg ng (by omega) (hown nm (by omega)) (by omega) hpar hng hgg) k_X5_132 rfl yk_X2_enterGroup ⟨Nat.le_of_ble_eq_true rfl, Nat.le_of_ble_eq_true rfl⟩ ⟨(show nm < 12 by first | assumption | omega), _, _, _, rfl, rfl, rfl⟩ rfl (Nat.le_of_ble_eq_true rfl) ⟨Nat.le_of_ble_eq_true rfl, Nat.le_of_ble_eq_true rfl⟩ dX5_addMachine_40 ?_
    rintro _ rfl
    refine g_aload_n hB 0 dX5_addMachine_43 rfl rfl ?_
    refine g_dup hB rfl dX5_addMachine_44 ?_
    refine g_get (ci := 5) (T := TX5) (N := 16) hB in_X5 rfl 0 0 7 (by decide) (by decide) rfl tw_fl_X5_127 rfl dX5_addMachine_45 ?_
    refine g_top (nI (nm)) ((congrFun (congrFun egM_0 0) 7).trans hm) ?_
    refine g_iconst hB (nI 1) dX5_addMachine_48 rfl ?_
    refine g_iadd hB dX5_addMachine_49 ?_
    refine g_top (nI (nm + 1)) (nI_add _ _) ?_
    refine s_put (ci := 5) (T := TX5) (N := 16) hB in_X5 rfl tyX5 tyX5_ok nmX5 0 0 7 (by decide) (by decide) rfl rfl tw_fl_X5_127 rfl rfl rfl (Nat.le_of_ble_eq_true rfl) dX5_addMachine_50 ?_
    refine g_iload_n hB 2 dX5_addMachine_53 rfl rfl ?_
    exact g_ixret hB hr rfl (Nat.le_of_ble_eq_true rfl) (Nat.le_of_ble_eq_true rfl) (⟨by simp only [amC, q_2, igg, c_11, e, cond_true, cond_false, decide_true, decide_false, Bool.and_true, Bool.true_and, Bool.and_false, Bool.false_and, Bool.or_true, Bool.true_or, Bool.or_false, Bool.false_or, Bool.not_true, Bool.not_false, not_true_eq_false, not_false_eq_true, ne_eq, Option.isSome], rfl, by rw [igg]; rfl⟩) dX5_addMachine_54
  · have e : decide (12 ≤ nm) = true := decide_eq_true (by omega)
    exact g_throwS hl hB hex "there are 12 machines" th_IS (List.mem_of_getElem? (i := 3) rfl) dX5_addMachine_14 dX5_addMachine_17 dX5_addMachine_18 dX5_addMachine_20 dX5_addMachine_23 ⟨Nat.le_of_ble_eq_true rfl, Nat.le_of_ble_eq_true rfl, Nat.le_of_ble_eq_true rfl, Nat.le_of_ble_eq_true rfl⟩ ⟨Nat.le_of_ble_eq_true rfl, Nat.le_of_ble_eq_true rfl⟩ (px2 rfl (by simp only [amC, q_2, igg, c_11, e, cond_true, cond_false, decide_true, decide_false, Bool.and_true, Bool.true_and, Bool.and_false, Bool.false_and, Bool.or_true, Bool.true_or, Bool.or_false, Bool.false_or, Bool.not_true, Bool.not_false, not_true_eq_false, not_false_eq_true, ne_eq, Option.isSome]))
theorem c_X5_moveMachine (hl : l.stackTraces = false) (S : Mem) (ng nm nc t pa : Nat) (h : KI S ng nm nc t pa) (x y : Int32) : CXI l yX5_moveMachine cX5_moveMachine 5 (some .int) { frames := 7, cells := 3, slots := 18, locals := 110 } D ad CNT ca SR (SH ad ca S) [.ref (ad 0 0), .int (x), .int (y)] (PRm ad ca (mmC S x y ng nm) (S 6 (ix x) 1) (egM S (ix x) (10 + ix x) (ix y))) (PXm [xIO, xIS] (mmC S x y ng nm)) := by
  have h0 := h
  obtain ⟨⟨hg, hng0, hng⟩, ⟨hm, hnm⟩, ⟨hc, hnc⟩, ⟨ht, htb⟩, ⟨hpa, hpab⟩, hpar, hmk, hcell, hown⟩ := h
  refine CXI.of _ RX5 (by decide +kernel) rfl (Nat.le_of_ble_eq_true rfl) ?_
  intro p9 e9 s9 m9 a9 b9 me9 c9 A9 hB hr hex
  refine g_aload_n hB 0 dX5_moveMachine_0 rfl rfl ?_
  refine g_iload_n hB 1 dX5_moveMachine_1 rfl rfl ?_
  refine g_callXVV hB hex (c_X5_requireMachine hl _ x nm hm hnm) k_X5_136 rfl yk_X5_requireMachine ⟨Nat.le_of_ble_eq_true rfl, Nat.le_of_ble_eq_true rfl⟩ ⟨(by decide), _, _, _, rfl, rfl, rfl⟩ rfl (Nat.le_of_ble_eq_true rfl) ⟨Nat.le_of_ble_eq_true rfl, Nat.le_of_ble_eq_true rfl⟩ dX5_moveMachine_2 ⟨Nat.le_of_ble_eq_true rfl, Nat.le_of_ble_eq_true rfl⟩ (fun X hX => px1 hX.1 (by simp only [mmC, hX.2, cond_true, cond_false, decide_true, decide_false, Bool.and_true, Bool.true_and, Bool.and_false, Bool.false_and, Bool.or_true, Bool.true_or, Bool.or_false, Bool.false_or, Bool.not_true, Bool.not_false, not_true_eq_false, not_false_eq_true, ne_eq, Option.isSome])) ?_
  rintro _ ⟨q_2, rfl⟩
  obtain ⟨i, hi, rfl⟩ := rgB_t q_2
  have ii : ix (nI i) = i := ix_nI (by omega)
  refine g_aload_n hB 0 dX5_moveMachine_5 rfl rfl ?_
  refine g_iload_n hB 2 dX5_moveMachine_6 rfl rfl ?_
  refine g_callXVV hB hex (c_X5_requireGroup hl _ y ng hg hng) k_X5_122 rfl yk_X5_requireGroup ⟨Nat.le_of_ble_eq_true rfl, Nat.le_of_ble_eq_true rfl⟩ ⟨(by decide), _, _, _, rfl, rfl, rfl⟩ rfl (Nat.le_of_ble_eq_true rfl) ⟨Nat.le_of_ble_eq_true rfl, Nat.le_of_ble_eq_true rfl⟩ dX5_moveMachine_7 ⟨Nat.le_of_ble_eq_true rfl, Nat.le_of_ble_eq_true rfl⟩ (fun X hX => px1 hX.1 (by simp only [mmC, q_2, ii, hX.2, cond_true, cond_false, decide_true, decide_false, Bool.and_true, Bool.true_and, Bool.and_false, Bool.false_and, Bool.or_true, Bool.true_or, Bool.or_false, Bool.false_or, Bool.not_true, Bool.not_false, not_true_eq_false, not_false_eq_true, ne_eq, Option.isSome])) ?_
  rintro _ ⟨q_7, rfl⟩
  obtain ⟨gg, hgg, rfl⟩ := rgB_t q_7
  have igg : ix (nI gg) = gg := ix_nI (by omega)
  refine g_aload_n hB 0 dX5_moveMachine_10 rfl rfl ?_
  refine g_get (ci := 5) (T := TX5) (N := 16) hB in_X5 rfl 0 0 6 (by decide) (by decide) rfl tw_fl_X5_31 rfl dX5_moveMachine_11 ?_
  refine g_iload_n hB 1 dX5_moveMachine_14 rfl rfl ?_
  refine g_aald hB 3 0 i 2 (n := 12) (by decide) rfl rfl (by first | assumption | omega) (Nat.le_of_ble_eq_true rfl) rfl dX5_moveMachine_15 ?_
  refine g_astore_n hB 3 dX5_moveMachine_16 rfl (by decide) ?_
  refine g_aload_n hB 3 dX5_moveMachine_17 rfl rfl ?_
  refine g_get (ci := 2) (T := TX2) (N := 6) hB in_X2 rfl 6 i 2 (show i < 12 by first | assumption | omega) (by decide) rfl tw_fl_X5_139 rfl dX5_moveMachine_18 ?_
  refine g_aload_n hB 0 dX5_moveMachine_21 rfl rfl ?_
  refine g_get (ci := 5) (T := TX5) (N := 16) hB in_X5 rfl 0 0 0 (by decide) (by decide) rfl tw_fl_X5_97 rfl dX5_moveMachine_22 ?_
  refine g_icmp_le hB 38 dX5_moveMachine_25 (by decide) (fun c_25 => ?_) (fun c_25 => ?_)
  · have e : decide (S 0 0 0 < S 6 i 2) = false := decide_eq_false (Int32.not_lt.mpr c_25)
    refine g_aload_n hB 3 dX5_moveMachine_38 rfl rfl ?_
    refine g_get (ci := 2) (T := TX2) (N := 6) hB in_X2 rfl 6 i 1 (show i < 12 by first | assumption | omega) (by decide) rfl tw_fl_X5_144 rfl dX5_moveMachine_39 ?_
    refine g_istore hB 4 dX5_moveMachine_42 (by decide) ?_
    refine g_aload_n hB 3 dX5_moveMachine_44 rfl rfl ?_
    refine g_iload_n hB 2 dX5_moveMachine_45 rfl rfl ?_
    refine g_aload_n hB 0 dX5_moveMachine_46 rfl rfl ?_
    refine g_get (ci := 5) (T := TX5) (N := 16) hB in_X5 rfl 0 0 4 (by decide) (by decide) rfl tw_fl_X5_23 rfl dX5_moveMachine_47 ?_
    refine g_callVV hB (c_X2_enterGroup _ i (10 + i) gg ng (by omega) (hown i (by omega)) (by omega) hpar hng hgg) k_X5_132 rfl yk_X2_enterGroup ⟨Nat.le_of_ble_eq_true rfl, Nat.le_of_ble_eq_true rfl⟩ ⟨(show i < 12 by first | assumption | omega), _, _, _, rfl, rfl, rfl⟩ rfl (Nat.le_of_ble_eq_true rfl) ⟨Nat.le_of_ble_eq_true rfl, Nat.le_of_ble_eq_true rfl⟩ dX5_moveMachine_50 ?_
    rintro _ rfl
    refine g_iload hB 4 dX5_moveMachine_53 rfl ?_
    exact g_ixret hB hr rfl (Nat.le_of_ble_eq_true rfl) (Nat.le_of_ble_eq_true rfl) (⟨by simp only [mmC, q_2, ii, q_7, igg, c_25, e, cond_true, cond_false, decide_true, decide_false, Bool.and_true, Bool.true_and, Bool.and_false, Bool.false_and, Bool.or_true, Bool.true_or, Bool.or_false, Bool.false_or, Bool.not_true, Bool.not_false, not_true_eq_false, not_false_eq_true, ne_eq, Option.isSome], by rw [ii], by rw [ii, igg]⟩) dX5_moveMachine_55
  · have e : decide (S 0 0 0 < S 6 i 2) = true := decide_eq_true (Int32.not_le.mp c_25)
    exact g_throwS hl hB hex "the machine is busy" th_IS (List.mem_of_getElem? (i := 15) rfl) dX5_moveMachine_28 dX5_moveMachine_31 dX5_moveMachine_32 dX5_moveMachine_34 dX5_moveMachine_37 ⟨Nat.le_of_ble_eq_true rfl, Nat.le_of_ble_eq_true rfl, Nat.le_of_ble_eq_true rfl, Nat.le_of_ble_eq_true rfl⟩ ⟨Nat.le_of_ble_eq_true rfl, Nat.le_of_ble_eq_true rfl⟩ (px2 rfl (by simp only [mmC, q_2, ii, q_7, igg, c_25, e, cond_true, cond_false, decide_true, decide_false, Bool.and_true, Bool.true_and, Bool.and_false, Bool.false_and, Bool.or_true, Bool.true_or, Bool.or_false, Bool.false_or, Bool.not_true, Bool.not_false, not_true_eq_false, not_false_eq_true, ne_eq, Option.isSome]))
theorem c_X5_work (hl : l.stackTraces = false) (S : Mem) (ng nm nc t pa : Nat) (h : KI S ng nm nc t pa) (x y : Int32) : CXI l yX5_work cX5_work 4 (some .int) { frames := 7, cells := 2, slots := 12, locals := 103 } D ad CNT ca SR (SH ad ca S) [.ref (ad 0 0), .int (x), .int (y)] (PRm ad ca (woC S x y nm nc) (S 0 0 0 + y) (uM S 6 (ix x) 2 (S 0 0 0 + y))) (PXm [xIO, xIA, xIS] (woC S x y nm nc)) := by
  have h0 := h
  obtain ⟨⟨hg, hng0, hng⟩, ⟨hm, hnm⟩, ⟨hc, hnc⟩, ⟨ht, htb⟩, ⟨hpa, hpab⟩, hpar, hmk, hcell, hown⟩ := h
  refine CXI.of _ RX5 (by decide +kernel) rfl (Nat.le_of_ble_eq_true rfl) ?_
  intro p9 e9 s9 m9 a9 b9 me9 c9 A9 hB hr hex
  refine g_aload_n hB 0 dX5_work_0 rfl rfl ?_
  refine g_iload_n hB 1 dX5_work_1 rfl rfl ?_
  refine g_callXVV hB hex (c_X5_requireMachine hl _ x nm hm hnm) k_X5_136 rfl yk_X5_requireMachine ⟨Nat.le_of_ble_eq_true rfl, Nat.le_of_ble_eq_true rfl⟩ ⟨(by decide), _, _, _, rfl, rfl, rfl⟩ rfl (Nat.le_of_ble_eq_true rfl) ⟨Nat.le_of_ble_eq_true rfl, Nat.le_of_ble_eq_true rfl⟩ dX5_work_2 ⟨Nat.le_of_ble_eq_true rfl, Nat.le_of_ble_eq_true rfl⟩ (fun X hX => px1 hX.1 (by simp only [woC, hX.2, cond_true, cond_false, decide_true, decide_false, Bool.and_true, Bool.true_and, Bool.and_false, Bool.false_and, Bool.or_true, Bool.true_or, Bool.or_false, Bool.false_or, Bool.not_true, Bool.not_false, not_true_eq_false, not_false_eq_true, ne_eq, Option.isSome])) ?_
  rintro _ ⟨q_2, rfl⟩
  obtain ⟨i, hi, rfl⟩ := rgB_t q_2
  have ii : ix (nI i) = i := ix_nI (by omega)
  refine g_iload_n hB 2 dX5_work_5 rfl rfl ?_
  refine g_iconst hB (nI 1) dX5_work_6 rfl ?_
  refine g_icmp_lt hB 16 dX5_work_7 (by decide) (fun c_7 => ?_) (fun c_7 => ?_)
  · have e : decide (1 ≤ y.toInt ∧ y.toInt ≤ 30) = false := by rw [i32_lt, toInt_nI (by omega)] at c_7; exact decide_eq_false (by omega)
    exact g_throwS hl hB hex "days is out of range" th_IA (List.mem_of_getElem? (i := 0) rfl) dX5_work_16 dX5_work_19 dX5_work_20 dX5_work_22 dX5_work_25 ⟨Nat.le_of_ble_eq_true rfl, Nat.le_of_ble_eq_true rfl, Nat.le_of_ble_eq_true rfl, Nat.le_of_ble_eq_true rfl⟩ ⟨Nat.le_of_ble_eq_true rfl, Nat.le_of_ble_eq_true rfl⟩ (px2 rfl (by simp only [woC, q_2, ii, c_7, e, cond_true, cond_false, decide_true, decide_false, Bool.and_true, Bool.true_and, Bool.and_false, Bool.false_and, Bool.or_true, Bool.true_or, Bool.or_false, Bool.false_or, Bool.not_true, Bool.not_false, not_true_eq_false, not_false_eq_true, ne_eq, Option.isSome]))
  · refine g_iload_n hB 2 dX5_work_10 rfl rfl ?_
    refine g_bipush hB (nI 30) dX5_work_11 rfl ?_
    refine g_icmp_le hB 26 dX5_work_13 (by decide) (fun c_13 => ?_) (fun c_13 => ?_)
    · have e : decide (1 ≤ y.toInt ∧ y.toInt ≤ 30) = true := by rw [i32_lt, toInt_nI (by omega)] at c_7; rw [i32_le, toInt_nI (by omega)] at c_13; exact decide_eq_true (by omega)
      refine g_aload_n hB 0 dX5_work_26 rfl rfl ?_
      refine g_get (ci := 5) (T := TX5) (N := 16) hB in_X5 rfl 0 0 6 (by decide) (by decide) rfl tw_fl_X5_31 rfl dX5_work_27 ?_
      refine g_iload_n hB 1 dX5_work_30 rfl rfl ?_
      refine g_aald hB 3 0 i 2 (n := 12) (by decide) rfl rfl (by first | assumption | omega) (Nat.le_of_ble_eq_true rfl) rfl dX5_work_31 ?_
      refine g_astore_n hB 3 dX5_work_32 rfl (by decide) ?_
      refine g_aload_n hB 3 dX5_work_33 rfl rfl ?_
      refine g_get (ci := 2) (T := TX2) (N := 6) hB in_X2 rfl 6 i 2 (show i < 12 by first | assumption | omega) (by decide) rfl tw_fl_X5_139 rfl dX5_work_34 ?_
      refine g_aload_n hB 0 dX5_work_37 rfl rfl ?_
      refine g_get (ci := 5) (T := TX5) (N := 16) hB in_X5 rfl 0 0 0 (by decide) (by decide) rfl tw_fl_X5_97 rfl dX5_work_38 ?_
      refine g_icmp_gt hB 53 dX5_work_41 (by decide) (fun c_41 => ?_) (fun c_41 => ?_)
      · have e2 : decide (S 0 0 0 < S 6 i 2) = true := decide_eq_true c_41
        exact g_throwS hl hB hex "the machine is busy or stopped" th_IS (List.mem_of_getElem? (i := 14) rfl) dX5_work_53 dX5_work_56 dX5_work_57 dX5_work_59 dX5_work_62 ⟨Nat.le_of_ble_eq_true rfl, Nat.le_of_ble_eq_true rfl, Nat.le_of_ble_eq_true rfl, Nat.le_of_ble_eq_true rfl⟩ ⟨Nat.le_of_ble_eq_true rfl, Nat.le_of_ble_eq_true rfl⟩ (px3 rfl (by simp only [woC, q_2, ii, c_7, c_13, e, c_41, e2, cond_true, cond_false, decide_true, decide_false, Bool.and_true, Bool.true_and, Bool.and_false, Bool.false_and, Bool.or_true, Bool.true_or, Bool.or_false, Bool.false_or, Bool.not_true, Bool.not_false, not_true_eq_false, not_false_eq_true, ne_eq, Option.isSome]))
      · have e2 : decide (S 0 0 0 < S 6 i 2) = false := decide_eq_false c_41
        refine g_aload_n hB 0 dX5_work_44 rfl rfl ?_
        refine g_aload_n hB 3 dX5_work_45 rfl rfl ?_
        refine g_callVI hB (c_X5_nearestLayerNotHeld _ nc hc hnc i (by omega) _ (hmk i hi)) k_X5_147 rfl yk_X5_nearestLayerNotHeld ⟨Nat.le_of_ble_eq_true rfl, Nat.le_of_ble_eq_true rfl⟩ ⟨(by decide), _, _, _, rfl, rfl, rfl⟩ rfl (Nat.le_of_ble_eq_true rfl) ⟨Nat.le_of_ble_eq_true rfl, Nat.le_of_ble_eq_true rfl⟩ dX5_work_46 ?_
        rintro _ _ ⟨rfl, rfl⟩
        have hL := hmk i hi
        refine g_iconst hB (-1) dX5_work_49 rfl ?_
        refine g_icmp_eq hB 63 dX5_work_50 (by decide) (fun c_50 => ?_) (fun c_50 => ?_)
        · have e3 : cNear S nc i (clay S i) = none := (oI_m1 (fun c hc => by have := (fstN_some.mp hc).1; have := hL.2.1; omega)).mp c_50
          refine g_aload_n hB 3 dX5_work_63 rfl rfl ?_
          refine g_aload_n hB 0 dX5_work_64 rfl rfl ?_
          refine g_get (ci := 5) (T := TX5) (N := 16) hB in_X5 rfl 0 0 0 (by decide) (by decide) rfl tw_fl_X5_97 rfl dX5_work_65 ?_
          refine g_iload_n hB 2 dX5_work_68 rfl rfl ?_
          refine g_iadd hB dX5_work_69 ?_
          refine s_put (ci := 2) (T := TX2) (N := 6) hB in_X2 rfl tyX2 tyX2_ok nmX2 6 i 2 (show i < 12 by first | assumption | omega) (by decide) rfl rfl tw_fl_X5_139 rfl rfl rfl (Nat.le_of_ble_eq_true rfl) dX5_work_70 ?_
          refine g_aload_n hB 3 dX5_work_73 rfl rfl ?_
          refine g_get (ci := 2) (T := TX2) (N := 6) hB in_X2 rfl 6 i 2 (show i < 12 by first | assumption | omega) (by decide) rfl tw_fl_X5_139 rfl dX5_work_74 ?_
          exact g_ixret hB hr rfl (Nat.le_of_ble_eq_true rfl) (Nat.le_of_ble_eq_true rfl) (⟨by simp only [woC, q_2, ii, c_7, c_13, e, c_41, e2, c_50, e3, cond_true, cond_false, decide_true, decide_false, Bool.and_true, Bool.true_and, Bool.and_false, Bool.false_and, Bool.or_true, Bool.true_or, Bool.or_false, Bool.false_or, Bool.not_true, Bool.not_false, not_true_eq_false, not_false_eq_true, ne_eq, Option.isSome], uM_s, by rw [ii]⟩) dX5_work_77
        · obtain ⟨j, e3⟩ : ∃ j, cNear S nc i (clay S i) = some j := by
            cases hd : cNear S nc i (clay S i) with
            | none => rw [hd] at c_50; exact absurd rfl c_50
            | some d => exact ⟨d, rfl⟩
          exact g_throwS hl hB hex "the machine is busy or stopped" th_IS (List.mem_of_getElem? (i := 14) rfl) dX5_work_53 dX5_work_56 dX5_work_57 dX5_work_59 dX5_work_62 ⟨Nat.le_of_ble_eq_true rfl, Nat.le_of_ble_eq_true rfl, Nat.le_of_ble_eq_true rfl, Nat.le_of_ble_eq_true rfl⟩ ⟨Nat.le_of_ble_eq_true rfl, Nat.le_of_ble_eq_true rfl⟩ (px3 rfl (by simp only [woC, q_2, ii, c_7, c_13, e, c_41, e2, c_50, e3, cond_true, cond_false, decide_true, decide_false, Bool.and_true, Bool.true_and, Bool.and_false, Bool.false_and, Bool.or_true, Bool.true_or, Bool.or_false, Bool.false_or, Bool.not_true, Bool.not_false, not_true_eq_false, not_false_eq_true, ne_eq, Option.isSome]))
    · have e : decide (1 ≤ y.toInt ∧ y.toInt ≤ 30) = false := by rw [i32_le, toInt_nI (by omega)] at c_13; exact decide_eq_false (by omega)
      exact g_throwS hl hB hex "days is out of range" th_IA (List.mem_of_getElem? (i := 0) rfl) dX5_work_16 dX5_work_19 dX5_work_20 dX5_work_22 dX5_work_25 ⟨Nat.le_of_ble_eq_true rfl, Nat.le_of_ble_eq_true rfl, Nat.le_of_ble_eq_true rfl, Nat.le_of_ble_eq_true rfl⟩ ⟨Nat.le_of_ble_eq_true rfl, Nat.le_of_ble_eq_true rfl⟩ (px2 rfl (by simp only [woC, q_2, ii, c_7, c_13, e, cond_true, cond_false, decide_true, decide_false, Bool.and_true, Bool.true_and, Bool.and_false, Bool.false_and, Bool.or_true, Bool.true_or, Bool.or_false, Bool.false_or, Bool.not_true, Bool.not_false, not_true_eq_false, not_false_eq_true, ne_eq, Option.isSome]))
theorem c_X5_propose (hl : l.stackTraces = false) (S : Mem) (ng nm nc t pa : Nat) (h : KI S ng nm nc t pa) (x y z w : Int32) : CXI l yX5_propose cX5_propose 6 (some .int) { frames := 7, cells := 4, slots := 24, locals := 103 } D ad CNT ca SR (SH ad ca S) [.ref (ad 0 0), .int (x), .int (y), .int (z), .int (w)] (PRm ad ca (prC S x y z w ng nm nc) (nI nc) (prM S nc x (nI (ix (slF y ng nm) * 6 + ix z)) w)) (PXm [xIO, xIA, xIS] (prC S x y z w ng nm nc)) := by
  have h0 := h
  obtain ⟨⟨hg, hng0, hng⟩, ⟨hm, hnm⟩, ⟨hc, hnc⟩, ⟨ht, htb⟩, ⟨hpa, hpab⟩, hpar, hmk, hcell, hown⟩ := h
  refine CXI.of _ RX5 (by decide +kernel) rfl (Nat.le_of_ble_eq_true rfl) ?_
  intro p9 e9 s9 m9 a9 b9 me9 c9 A9 hB hr hex
  refine g_iload_n hB 1 dX5_propose_0 rfl rfl ?_
  refine g_callXSV hB hex (c_X5_requirePerson hl _ x) k_X5_79 yk_X5_requirePerson ⟨Nat.le_of_ble_eq_true rfl, Nat.le_of_ble_eq_true rfl⟩ rfl (Nat.le_of_ble_eq_true rfl) ⟨Nat.le_of_ble_eq_true rfl, Nat.le_of_ble_eq_true rfl⟩ dX5_propose_1 ⟨Nat.le_of_ble_eq_true rfl, Nat.le_of_ble_eq_true rfl⟩ (fun X hX => px1 hX.1 (by simp only [prC, hX.2, cond_true, cond_false, decide_true, decide_false, Bool.and_true, Bool.true_and, Bool.and_false, Bool.false_and, Bool.or_true, Bool.true_or, Bool.or_false, Bool.false_or, Bool.not_true, Bool.not_false, not_true_eq_false, not_false_eq_true, ne_eq, Option.isSome])) ?_
  rintro _ ⟨q_1, rfl⟩
  obtain ⟨p, hp, rfl⟩ := rgB_t q_1
  have ip : ix (nI p) = p := ix_nI (by omega)
  refine g_aload_n hB 0 dX5_propose_4 rfl rfl ?_
  refine g_iload_n hB 2 dX5_propose_5 rfl rfl ?_
  refine g_callXVV hB hex (c_X5_requirePlace hl _ y ng nm hg hng hm hnm) k_X5_155 rfl yk_X5_requirePlace ⟨Nat.le_of_ble_eq_true rfl, Nat.le_of_ble_eq_true rfl⟩ ⟨(by decide), _, _, _, rfl, rfl, rfl⟩ rfl (Nat.le_of_ble_eq_true rfl) ⟨Nat.le_of_ble_eq_true rfl, Nat.le_of_ble_eq_true rfl⟩ dX5_propose_6 ⟨Nat.le_of_ble_eq_true rfl, Nat.le_of_ble_eq_true rfl⟩ (fun X hX => px1 hX.1 (by simp only [prC, q_1, ip, hX.2, cond_true, cond_false, decide_true, decide_false, Bool.and_true, Bool.true_and, Bool.and_false, Bool.false_and, Bool.or_true, Bool.true_or, Bool.or_false, Bool.false_or, Bool.not_true, Bool.not_false, not_true_eq_false, not_false_eq_true, ne_eq, Option.isSome])) ?_
  rintro _ ⟨q_6, rfl⟩
  obtain ⟨s, hs, es⟩ := slF_in hng hnm q_6
  have is : ix (slF y ng nm) = s := by rw [es]; exact ix_nI (by omega)
  refine g_iload_n hB 3 dX5_propose_9 rfl rfl ?_
  refine g_callXSV hB hex (c_X5_requireKey hl _ z) k_X5_158 yk_X5_requireKey ⟨Nat.le_of_ble_eq_true rfl, Nat.le_of_ble_eq_true rfl⟩ rfl (Nat.le_of_ble_eq_true rfl) ⟨Nat.le_of_ble_eq_true rfl, Nat.le_of_ble_eq_true rfl⟩ dX5_propose_10 ⟨Nat.le_of_ble_eq_true rfl, Nat.le_of_ble_eq_true rfl⟩ (fun X hX => px1 hX.1 (by simp only [prC, q_1, ip, q_6, hX.2, cond_true, cond_false, decide_true, decide_false, Bool.and_true, Bool.true_and, Bool.and_false, Bool.false_and, Bool.or_true, Bool.true_or, Bool.or_false, Bool.false_or, Bool.not_true, Bool.not_false, not_true_eq_false, not_false_eq_true, ne_eq, Option.isSome])) ?_
  rintro _ ⟨q_10, rfl⟩
  obtain ⟨k, hk, rfl⟩ := rgB_t q_10
  have ik : ix (nI k) = k := ix_nI (by omega)
  refine g_iload hB 4 dX5_propose_13 rfl ?_
  refine g_if_lt hB 25 dX5_propose_15 (by decide) (fun c_15 => ?_) (fun c_15 => ?_)
  · have e : rgB w 102 = false := rg1 c_15
    exact g_throwS hl hB hex "what is out of range" th_IA (List.mem_of_getElem? (i := 10) rfl) dX5_propose_25 dX5_propose_28 dX5_propose_29 dX5_propose_31 dX5_propose_34 ⟨Nat.le_of_ble_eq_true rfl, Nat.le_of_ble_eq_true rfl, Nat.le_of_ble_eq_true rfl, Nat.le_of_ble_eq_true rfl⟩ ⟨Nat.le_of_ble_eq_true rfl, Nat.le_of_ble_eq_true rfl⟩ (px2 rfl (by simp only [prC, q_1, ip, q_6, q_10, ik, c_15, e, cond_true, cond_false, decide_true, decide_false, Bool.and_true, Bool.true_and, Bool.and_false, Bool.false_and, Bool.or_true, Bool.true_or, Bool.or_false, Bool.false_or, Bool.not_true, Bool.not_false, not_true_eq_false, not_false_eq_true, ne_eq, Option.isSome]))
  · refine g_iload hB 4 dX5_propose_18 rfl ?_
    refine g_bipush hB (nI 101) dX5_propose_20 rfl ?_
    refine g_icmp_le hB 35 dX5_propose_22 (by decide) (fun c_22 => ?_) (fun c_22 => ?_)
    · have e : rgB w 102 = true := by unfold rgB; rw [i32_le, toInt_nI (by omega)] at c_22; rw [i32_lt] at c_15; have z : (0 : Int32).toInt = 0 := rfl; exact decide_eq_true (by omega)
      refine g_aload_n hB 0 dX5_propose_35 rfl rfl ?_
      refine g_get (ci := 5) (T := TX5) (N := 16) hB in_X5 rfl 0 0 3 (by decide) (by decide) rfl tw_fl_X5_19 rfl dX5_propose_36 ?_
      refine g_iload_n hB 1 dX5_propose_39 rfl rfl ?_
      refine g_aald hB 2 0 p 1 (n := 8) (by decide) rfl rfl (by first | assumption | omega) (Nat.le_of_ble_eq_true rfl) rfl dX5_propose_40 ?_
      refine g_get (ci := 4) (T := TX4) (N := 4) hB in_X4 rfl 5 p 0 (show p < 8 by first | assumption | omega) (by decide) rfl tw_fl_X5_82 rfl dX5_propose_41 ?_
      refine g_if_eq hB 56 dX5_propose_44 (by decide) (fun c_44 => ?_) (fun c_44 => ?_)
      · exact g_throwS hl hB hex "the person is not in service, or there are 40 changes" th_IS (List.mem_of_getElem? (i := 11) rfl) dX5_propose_56 dX5_propose_59 dX5_propose_60 dX5_propose_62 dX5_propose_65 ⟨Nat.le_of_ble_eq_true rfl, Nat.le_of_ble_eq_true rfl, Nat.le_of_ble_eq_true rfl, Nat.le_of_ble_eq_true rfl⟩ ⟨Nat.le_of_ble_eq_true rfl, Nat.le_of_ble_eq_true rfl⟩ (px3 rfl (by simp only [prC, q_1, ip, q_6, q_10, ik, c_15, c_22, e, c_44, cond_true, cond_false, decide_true, decide_false, Bool.and_true, Bool.true_and, Bool.and_false, Bool.false_and, Bool.or_true, Bool.true_or, Bool.or_false, Bool.false_or, Bool.not_true, Bool.not_false, not_true_eq_false, not_false_eq_true, ne_eq, Option.isSome]))
      · refine g_aload_n hB 0 dX5_propose_47 rfl rfl ?_
        refine g_get (ci := 5) (T := TX5) (N := 16) hB in_X5 rfl 0 0 9 (by decide) (by decide) rfl tw_fl_X5_163 rfl dX5_propose_48 ?_
        refine g_top (nI nc) (hc) ?_
        refine g_bipush hB (nI 40) dX5_propose_51 rfl ?_
        refine n_icmp_lt hB nc 40 66 dX5_propose_53 (by decide) (by omega) (by omega) (fun c_53 => ?_) (fun c_53 => ?_)
        · have e2 : decide (40 ≤ nc) = false := decide_eq_false (by omega)
          refine g_aload_n hB 0 dX5_propose_66 rfl rfl ?_
          refine g_get (ci := 5) (T := TX5) (N := 16) hB in_X5 rfl 0 0 9 (by decide) (by decide) rfl tw_fl_X5_163 rfl dX5_propose_67 ?_
          refine g_top (nI nc) (hc) ?_
          refine g_istore hB 5 dX5_propose_70 (by decide) ?_
          refine g_aload_n hB 0 dX5_propose_72 rfl rfl ?_
          refine g_get (ci := 5) (T := TX5) (N := 16) hB in_X5 rfl 0 0 8 (by decide) (by decide) rfl tw_fl_X5_37 rfl dX5_propose_73 ?_
          refine g_iload hB 5 dX5_propose_76 rfl ?_
          refine g_aald hB 4 0 nc 3 (n := 40) (by decide) rfl rfl (by first | assumption | omega) (Nat.le_of_ble_eq_true rfl) rfl dX5_propose_78 ?_
          refine g_iload_n hB 1 dX5_propose_79 rfl rfl ?_
          refine g_aload_n hB 0 dX5_propose_80 rfl rfl ?_
          refine g_iload_n hB 2 dX5_propose_81 rfl rfl ?_
          refine g_callVI hB (c_X5_slotOf _ _ ng nm hg hng hm hnm) k_X5_168 rfl yk_X5_slotOf ⟨Nat.le_of_ble_eq_true rfl, Nat.le_of_ble_eq_true rfl⟩ ⟨(by decide), _, _, _, rfl, rfl, rfl⟩ rfl (Nat.le_of_ble_eq_true rfl) ⟨Nat.le_of_ble_eq_true rfl, Nat.le_of_ble_eq_true rfl⟩ dX5_propose_82 ?_
          rintro _ _ ⟨rfl, rfl⟩
          refine g_top (nI (s)) (es) ?_
          refine g_iload_n hB 3 dX5_propose_85 rfl rfl ?_
          refine g_callSI hB (c_X5_cellOf _ _ _) k_X5_171 yk_X5_cellOf ⟨Nat.le_of_ble_eq_true rfl, Nat.le_of_ble_eq_true rfl⟩ rfl (Nat.le_of_ble_eq_true rfl) ⟨Nat.le_of_ble_eq_true rfl, Nat.le_of_ble_eq_true rfl⟩ dX5_propose_86 ?_
          rintro _ _ ⟨rfl, rfl⟩
          refine g_iload hB 4 dX5_propose_89 rfl ?_
          refine g_aload_n hB 0 dX5_propose_91 rfl rfl ?_
          refine g_get (ci := 5) (T := TX5) (N := 16) hB in_X5 rfl 0 0 0 (by decide) (by decide) rfl tw_fl_X5_97 rfl dX5_propose_92 ?_
          refine g_callVV hB (c_X0_begin _ nc (by omega) _ _ _ _) k_X5_175 rfl yk_X0_begin ⟨Nat.le_of_ble_eq_true rfl, Nat.le_of_ble_eq_true rfl⟩ ⟨(show nc < 40 by first | assumption | omega), _, _, _, rfl, rfl, rfl⟩ rfl (Nat.le_of_ble_eq_true rfl) ⟨Nat.le_of_ble_eq_true rfl, Nat.le_of_ble_eq_true rfl⟩ dX5_propose_95 ?_
          rintro _ rfl
          refine g_aload_n hB 0 dX5_propose_98 rfl rfl ?_
          refine g_dup hB rfl dX5_propose_99 ?_
          refine g_get (ci := 5) (T := TX5) (N := 16) hB in_X5 rfl 0 0 9 (by decide) (by decide) rfl tw_fl_X5_163 rfl dX5_propose_100 ?_
          refine g_top (nI nc) (hc) ?_
          refine g_iconst hB (nI 1) dX5_propose_103 rfl ?_
          refine g_iadd hB dX5_propose_104 ?_
          refine g_top (nI (nc + 1)) (nI_add _ _) ?_
          refine s_put (ci := 5) (T := TX5) (N := 16) hB in_X5 rfl tyX5 tyX5_ok nmX5 0 0 9 (by decide) (by decide) rfl rfl tw_fl_X5_163 rfl rfl rfl (Nat.le_of_ble_eq_true rfl) dX5_propose_105 ?_
          refine g_iload hB 5 dX5_propose_108 rfl ?_
          exact g_ixret hB hr rfl (Nat.le_of_ble_eq_true rfl) (Nat.le_of_ble_eq_true rfl) (⟨by simp only [prC, q_1, ip, q_6, q_10, ik, c_15, c_22, e, c_44, c_53, e2, cond_true, cond_false, decide_true, decide_false, Bool.and_true, Bool.true_and, Bool.and_false, Bool.false_and, Bool.or_true, Bool.true_or, Bool.or_false, Bool.false_or, Bool.not_true, Bool.not_false, not_true_eq_false, not_false_eq_true, ne_eq, Option.isSome], rfl, by rw [is, ik]; rfl⟩) dX5_propose_110
        · have e2 : decide (40 ≤ nc) = true := decide_eq_true (by omega)
          exact g_throwS hl hB hex "the person is not in service, or there are 40 changes" th_IS (List.mem_of_getElem? (i := 11) rfl) dX5_propose_56 dX5_propose_59 dX5_propose_60 dX5_propose_62 dX5_propose_65 ⟨Nat.le_of_ble_eq_true rfl, Nat.le_of_ble_eq_true rfl, Nat.le_of_ble_eq_true rfl, Nat.le_of_ble_eq_true rfl⟩ ⟨Nat.le_of_ble_eq_true rfl, Nat.le_of_ble_eq_true rfl⟩ (px3 rfl (by simp only [prC, q_1, ip, q_6, q_10, ik, c_15, c_22, e, c_44, c_53, e2, cond_true, cond_false, decide_true, decide_false, Bool.and_true, Bool.true_and, Bool.and_false, Bool.false_and, Bool.or_true, Bool.true_or, Bool.or_false, Bool.false_or, Bool.not_true, Bool.not_false, not_true_eq_false, not_false_eq_true, ne_eq, Option.isSome]))
    · have e : rgB w 102 = false := by unfold rgB; refine decide_eq_false (fun z => c_22 ?_); rw [i32_le, toInt_nI (by omega)]; omega
      exact g_throwS hl hB hex "what is out of range" th_IA (List.mem_of_getElem? (i := 10) rfl) dX5_propose_25 dX5_propose_28 dX5_propose_29 dX5_propose_31 dX5_propose_34 ⟨Nat.le_of_ble_eq_true rfl, Nat.le_of_ble_eq_true rfl, Nat.le_of_ble_eq_true rfl, Nat.le_of_ble_eq_true rfl⟩ ⟨Nat.le_of_ble_eq_true rfl, Nat.le_of_ble_eq_true rfl⟩ (px2 rfl (by simp only [prC, q_1, ip, q_6, q_10, ik, c_15, c_22, e, cond_true, cond_false, decide_true, decide_false, Bool.and_true, Bool.true_and, Bool.and_false, Bool.false_and, Bool.or_true, Bool.true_or, Bool.or_false, Bool.false_or, Bool.not_true, Bool.not_false, not_true_eq_false, not_false_eq_true, ne_eq, Option.isSome]))
theorem apS_9 {S : Mem} {p c c' j : Nat} (h : j ≠ 5) : apS S p c 9 c' j = S 9 c' j := by
  unfold apS adM
  simp [uM_ap, h]
theorem c_X5_approve (hl : l.stackTraces = false) (S : Mem) (ng nm nc t pa : Nat) (h : KI S ng nm nc t pa) (x y : Int32) : CXI l yX5_approve cX5_approve 4 (some .int) { frames := 7, cells := 3, slots := 18, locals := 107 } D ad CNT ca SR (SH ad ca S) [.ref (ad 0 0), .int (x), .int (y)] (PRm ad ca (apC S x y nc t) (apM S (ix x) (ix y) nc 9 (ix y) 4) (apM S (ix x) (ix y) nc)) (PXm [xIO, xIS] (apC S x y nc t)) := by
  have h0 := h
  obtain ⟨⟨hg, hng0, hng⟩, ⟨hm, hnm⟩, ⟨hc, hnc⟩, ⟨ht, htb⟩, ⟨hpa, hpab⟩, hpar, hmk, hcell, hown⟩ := h
  refine CXI.of _ RX5 (by decide +kernel) rfl (Nat.le_of_ble_eq_true rfl) ?_
  intro p9 e9 s9 m9 a9 b9 me9 c9 A9 hB hr hex
  refine g_iload_n hB 1 dX5_approve_0 rfl rfl ?_
  refine g_callXSV hB hex (c_X5_requirePerson hl _ x) k_X5_79 yk_X5_requirePerson ⟨Nat.le_of_ble_eq_true rfl, Nat.le_of_ble_eq_true rfl⟩ rfl (Nat.le_of_ble_eq_true rfl) ⟨Nat.le_of_ble_eq_true rfl, Nat.le_of_ble_eq_true rfl⟩ dX5_approve_1 ⟨Nat.le_of_ble_eq_true rfl, Nat.le_of_ble_eq_true rfl⟩ (fun X hX => px1 hX.1 (by simp only [apC, hX.2, cond_true, cond_false, decide_true, decide_false, Bool.and_true, Bool.true_and, Bool.and_false, Bool.false_and, Bool.or_true, Bool.true_or, Bool.or_false, Bool.false_or, Bool.not_true, Bool.not_false, not_true_eq_false, not_false_eq_true, ne_eq, Option.isSome])) ?_
  rintro _ ⟨q_1, rfl⟩
  obtain ⟨p, hp, rfl⟩ := rgB_t q_1
  have ip : ix (nI p) = p := ix_nI (by omega)
  refine g_aload_n hB 0 dX5_approve_4 rfl rfl ?_
  refine g_iload_n hB 2 dX5_approve_5 rfl rfl ?_
  refine g_callXVV hB hex (c_X5_requireChange hl _ y nc hc hnc) k_X5_179 rfl yk_X5_requireChange ⟨Nat.le_of_ble_eq_true rfl, Nat.le_of_ble_eq_true rfl⟩ ⟨(by decide), _, _, _, rfl, rfl, rfl⟩ rfl (Nat.le_of_ble_eq_true rfl) ⟨Nat.le_of_ble_eq_true rfl, Nat.le_of_ble_eq_true rfl⟩ dX5_approve_6 ⟨Nat.le_of_ble_eq_true rfl, Nat.le_of_ble_eq_true rfl⟩ (fun X hX => px1 hX.1 (by simp only [apC, q_1, ip, hX.2, cond_true, cond_false, decide_true, decide_false, Bool.and_true, Bool.true_and, Bool.and_false, Bool.false_and, Bool.or_true, Bool.true_or, Bool.or_false, Bool.false_or, Bool.not_true, Bool.not_false, not_true_eq_false, not_false_eq_true, ne_eq, Option.isSome])) ?_
  rintro _ ⟨q_6, rfl⟩
  obtain ⟨d, hd, rfl⟩ := rgB_t q_6
  have id : ix (nI d) = d := ix_nI (by omega)
  refine g_aload_n hB 0 dX5_approve_9 rfl rfl ?_
  refine g_get (ci := 5) (T := TX5) (N := 16) hB in_X5 rfl 0 0 8 (by decide) (by decide) rfl tw_fl_X5_37 rfl dX5_approve_10 ?_
  refine g_iload_n hB 2 dX5_approve_13 rfl rfl ?_
  refine g_aald hB 4 0 d 3 (n := 40) (by decide) rfl rfl (by first | assumption | omega) (Nat.le_of_ble_eq_true rfl) rfl dX5_approve_14 ?_
  refine g_astore_n hB 3 dX5_approve_15 rfl (by decide) ?_
  refine g_aload_n hB 0 dX5_approve_16 rfl rfl ?_
  refine g_get (ci := 5) (T := TX5) (N := 16) hB in_X5 rfl 0 0 3 (by decide) (by decide) rfl tw_fl_X5_19 rfl dX5_approve_17 ?_
  refine g_iload_n hB 1 dX5_approve_20 rfl rfl ?_
  refine g_aald hB 2 0 p 1 (n := 8) (by decide) rfl rfl (by first | assumption | omega) (Nat.le_of_ble_eq_true rfl) rfl dX5_approve_21 ?_
  refine g_get (ci := 4) (T := TX4) (N := 4) hB in_X4 rfl 5 p 0 (show p < 8 by first | assumption | omega) (by decide) rfl tw_fl_X5_82 rfl dX5_approve_22 ?_
  refine g_if_eq hB 44 dX5_approve_25 (by decide) (fun c_25 => ?_) (fun c_25 => ?_)
  · exact g_throwS hl hB hex "the person can not approve the change now" th_IS (List.mem_of_getElem? (i := 12) rfl) dX5_approve_44 dX5_approve_47 dX5_approve_48 dX5_approve_50 dX5_approve_53 ⟨Nat.le_of_ble_eq_true rfl, Nat.le_of_ble_eq_true rfl, Nat.le_of_ble_eq_true rfl, Nat.le_of_ble_eq_true rfl⟩ ⟨Nat.le_of_ble_eq_true rfl, Nat.le_of_ble_eq_true rfl⟩ (px2 rfl (by simp only [apC, q_1, ip, q_6, id, c_25, cond_true, cond_false, decide_true, decide_false, Bool.and_true, Bool.true_and, Bool.and_false, Bool.false_and, Bool.or_true, Bool.true_or, Bool.or_false, Bool.false_or, Bool.not_true, Bool.not_false, not_true_eq_false, not_false_eq_true, ne_eq, Option.isSome]))
  · refine g_aload_n hB 0 dX5_approve_28 rfl rfl ?_
    refine g_iload_n hB 1 dX5_approve_29 rfl rfl ?_
    refine g_callVI hB (c_X5_isOnDuty _ p t ht htb) k_X5_182 rfl yk_X5_isOnDuty ⟨Nat.le_of_ble_eq_true rfl, Nat.le_of_ble_eq_true rfl⟩ ⟨(by decide), _, _, _, rfl, rfl, rfl⟩ rfl (Nat.le_of_ble_eq_true rfl) ⟨Nat.le_of_ble_eq_true rfl, Nat.le_of_ble_eq_true rfl⟩ dX5_approve_30 ?_
    rintro _ _ ⟨rfl, rfl⟩
    refine b_if_eq hB (cntI (S 1 0 (t / 7 % 4)) (nI p)) 44 dX5_approve_33 (by decide) (fun c_33 => ?_) (fun c_33 => ?_)
    · exact g_throwS hl hB hex "the person can not approve the change now" th_IS (List.mem_of_getElem? (i := 12) rfl) dX5_approve_44 dX5_approve_47 dX5_approve_48 dX5_approve_50 dX5_approve_53 ⟨Nat.le_of_ble_eq_true rfl, Nat.le_of_ble_eq_true rfl, Nat.le_of_ble_eq_true rfl, Nat.le_of_ble_eq_true rfl⟩ ⟨Nat.le_of_ble_eq_true rfl, Nat.le_of_ble_eq_true rfl⟩ (px2 rfl (by simp only [apC, q_1, ip, q_6, id, c_25, c_33, cond_true, cond_false, decide_true, decide_false, Bool.and_true, Bool.true_and, Bool.and_false, Bool.false_and, Bool.or_true, Bool.true_or, Bool.or_false, Bool.false_or, Bool.not_true, Bool.not_false, not_true_eq_false, not_false_eq_true, ne_eq, Option.isSome]))
    · refine g_aload_n hB 3 dX5_approve_36 rfl rfl ?_
      refine g_iload_n hB 1 dX5_approve_37 rfl rfl ?_
      refine g_callVI hB (c_X0_canBeApprovedBy _ d (by omega) p) k_X5_186 rfl yk_X0_canBeApprovedBy ⟨Nat.le_of_ble_eq_true rfl, Nat.le_of_ble_eq_true rfl⟩ ⟨(show d < 40 by first | assumption | omega), _, _, _, rfl, rfl, rfl⟩ rfl (Nat.le_of_ble_eq_true rfl) ⟨Nat.le_of_ble_eq_true rfl, Nat.le_of_ble_eq_true rfl⟩ dX5_approve_38 ?_
      rintro _ _ ⟨rfl, rfl⟩
      refine b_if_ne hB (canB S d p) 54 dX5_approve_41 (by decide) (fun c_41 => ?_) (fun c_41 => ?_)
      · refine g_aload_n hB 0 dX5_approve_54 rfl rfl ?_
        refine g_dup hB rfl dX5_approve_55 ?_
        refine g_get (ci := 5) (T := TX5) (N := 16) hB in_X5 rfl 0 0 11 (by decide) (by decide) rfl tw_fl_X5_91 rfl dX5_approve_56 ?_
        refine g_iconst hB (nI 1) dX5_approve_59 rfl ?_
        refine g_iadd hB dX5_approve_60 ?_
        refine s_put (ci := 5) (T := TX5) (N := 16) hB in_X5 rfl tyX5 tyX5_ok nmX5 0 0 11 (by decide) (by decide) rfl rfl tw_fl_X5_91 rfl rfl rfl (Nat.le_of_ble_eq_true rfl) dX5_approve_61 ?_
        refine g_aload_n hB 3 dX5_approve_64 rfl rfl ?_
        refine g_iload_n hB 1 dX5_approve_65 rfl rfl ?_
        refine g_aload_n hB 0 dX5_approve_66 rfl rfl ?_
        refine g_get (ci := 5) (T := TX5) (N := 16) hB in_X5 rfl 0 0 0 (by decide) (by decide) rfl tw_fl_X5_97 rfl dX5_approve_67 ?_
        refine g_aload_n hB 0 dX5_approve_70 rfl rfl ?_
        refine g_get (ci := 5) (T := TX5) (N := 16) hB in_X5 rfl 0 0 11 (by decide) (by decide) rfl tw_fl_X5_91 rfl dX5_approve_71 ?_
        refine g_callVV hB (c_X0_addApproval _ d (by omega) p hp _ _) k_X5_191 rfl yk_X0_addApproval ⟨Nat.le_of_ble_eq_true rfl, Nat.le_of_ble_eq_true rfl⟩ ⟨(show d < 40 by first | assumption | omega), _, _, _, rfl, rfl, rfl⟩ rfl (Nat.le_of_ble_eq_true rfl) ⟨Nat.le_of_ble_eq_true rfl, Nat.le_of_ble_eq_true rfl⟩ dX5_approve_74 ?_
        rintro _ rfl
        refine g_aload_n hB 3 dX5_approve_77 rfl rfl ?_
        refine g_get (ci := 0) (T := TX0) (N := 8) hB in_X0 rfl 9 d 4 (show d < 40 by first | assumption | omega) (by decide) rfl tw_fl_X5_195 rfl dX5_approve_78 ?_
        refine g_iconst hB (nI 1) dX5_approve_81 rfl ?_
        refine g_icmp_eq hB 98 dX5_approve_82 (by decide) (fun c_82 => ?_) (fun c_82 => ?_)
        · have e : apM S p d nc = apS S p d := by unfold apM; rw [decide_eq_false (fun z => z c_82), Bool.false_and]; rfl
          refine g_aload_n hB 3 dX5_approve_98 rfl rfl ?_
          refine g_get (ci := 0) (T := TX0) (N := 8) hB in_X0 rfl 9 d 4 (show d < 40 by first | assumption | omega) (by decide) rfl tw_fl_X5_195 rfl dX5_approve_99 ?_
          exact g_ixret hB hr rfl (Nat.le_of_ble_eq_true rfl) (Nat.le_of_ble_eq_true rfl) (⟨by simp only [apC, q_1, ip, q_6, id, c_25, c_33, c_41, c_82, cond_true, cond_false, decide_true, decide_false, Bool.and_true, Bool.true_and, Bool.and_false, Bool.false_and, Bool.or_true, Bool.true_or, Bool.or_false, Bool.false_or, Bool.not_true, Bool.not_false, not_true_eq_false, not_false_eq_true, ne_eq, Option.isSome], by rw [ip, id, e]; rfl, by rw [ip, id, e]; rfl⟩) dX5_approve_102
        · refine g_aload_n hB 3 dX5_approve_85 rfl rfl ?_
          refine g_callVI hB (c_X0_countGood _ d (by omega)) k_X5_198 rfl yk_X0_countGood ⟨Nat.le_of_ble_eq_true rfl, Nat.le_of_ble_eq_true rfl⟩ ⟨(show d < 40 by first | assumption | omega), _, _, _, rfl, rfl, rfl⟩ rfl (Nat.le_of_ble_eq_true rfl) ⟨Nat.le_of_ble_eq_true rfl, Nat.le_of_ble_eq_true rfl⟩ dX5_approve_86 ?_
          rintro _ _ ⟨rfl, rfl⟩
          refine g_iconst hB (nI 2) dX5_approve_89 rfl ?_
          refine g_icmp_lt hB 98 dX5_approve_90 (by decide) (fun c_90 => ?_) (fun c_90 => ?_)
          · have e : apM S p d nc = apS S p d := by unfold apM; rw [decide_eq_false (p := nI 2 ≤ bcF (apS S p d 9 d 5)) (Int32.not_le.mpr c_90), Bool.and_false]; rfl
            refine g_aload_n hB 3 dX5_approve_98 rfl rfl ?_
            refine g_get (ci := 0) (T := TX0) (N := 8) hB in_X0 rfl 9 d 4 (show d < 40 by first | assumption | omega) (by decide) rfl tw_fl_X5_195 rfl dX5_approve_99 ?_
            exact g_ixret hB hr rfl (Nat.le_of_ble_eq_true rfl) (Nat.le_of_ble_eq_true rfl) (⟨by simp only [apC, q_1, ip, q_6, id, c_25, c_33, c_41, c_82, c_90, cond_true, cond_false, decide_true, decide_false, Bool.and_true, Bool.true_and, Bool.and_false, Bool.false_and, Bool.or_true, Bool.true_or, Bool.or_false, Bool.false_or, Bool.not_true, Bool.not_false, not_true_eq_false, not_false_eq_true, ne_eq, Option.isSome], by rw [ip, id, e]; rfl, by rw [ip, id, e]; rfl⟩) dX5_approve_102
          · have e : apM S p d nc = hoM (apS S p d) d nc := by unfold apM; rw [decide_eq_true (p := apS S p d 9 d 4 ≠ nI 1) c_82, decide_eq_true (p := nI 2 ≤ bcF (apS S p d 9 d 5)) (Int32.not_lt.mp c_90)]; rfl
            refine g_aload_n hB 0 dX5_approve_93 rfl rfl ?_
            refine g_iload_n hB 2 dX5_approve_94 rfl rfl ?_
            refine g_callVV hB (c_X5_hold _ d nc (show apS S p d 0 0 9 = nI nc from hc) hnc hd (fun c' h => show ∃ q, q < 132 ∧ apS S p d 9 c' 1 = nI q from by rw [apS_9 (by decide)]; exact hcell c' h)) k_X5_201 rfl yk_X5_hold ⟨Nat.le_of_ble_eq_true rfl, Nat.le_of_ble_eq_true rfl⟩ ⟨(by decide), _, _, _, rfl, rfl, rfl⟩ rfl (Nat.le_of_ble_eq_true rfl) ⟨Nat.le_of_ble_eq_true rfl, Nat.le_of_ble_eq_true rfl⟩ dX5_approve_95 ?_
            rintro _ rfl
            refine g_aload_n hB 3 dX5_approve_98 rfl rfl ?_
            refine g_get (ci := 0) (T := TX0) (N := 8) hB in_X0 rfl 9 d 4 (show d < 40 by first | assumption | omega) (by decide) rfl tw_fl_X5_195 rfl dX5_approve_99 ?_
            exact g_ixret hB hr rfl (Nat.le_of_ble_eq_true rfl) (Nat.le_of_ble_eq_true rfl) (⟨by simp only [apC, q_1, ip, q_6, id, c_25, c_33, c_41, c_82, c_90, cond_true, cond_false, decide_true, decide_false, Bool.and_true, Bool.true_and, Bool.and_false, Bool.false_and, Bool.or_true, Bool.true_or, Bool.or_false, Bool.false_or, Bool.not_true, Bool.not_false, not_true_eq_false, not_false_eq_true, ne_eq, Option.isSome], by rw [ip, id, e]; rfl, by rw [ip, id, e]; rfl⟩) dX5_approve_102
      · exact g_throwS hl hB hex "the person can not approve the change now" th_IS (List.mem_of_getElem? (i := 12) rfl) dX5_approve_44 dX5_approve_47 dX5_approve_48 dX5_approve_50 dX5_approve_53 ⟨Nat.le_of_ble_eq_true rfl, Nat.le_of_ble_eq_true rfl, Nat.le_of_ble_eq_true rfl, Nat.le_of_ble_eq_true rfl⟩ ⟨Nat.le_of_ble_eq_true rfl, Nat.le_of_ble_eq_true rfl⟩ (px2 rfl (by simp only [apC, q_1, ip, q_6, id, c_25, c_33, c_41, cond_true, cond_false, decide_true, decide_false, Bool.and_true, Bool.true_and, Bool.and_false, Bool.false_and, Bool.or_true, Bool.true_or, Bool.or_false, Bool.false_or, Bool.not_true, Bool.not_false, not_true_eq_false, not_false_eq_true, ne_eq, Option.isSome]))
theorem c_X5_withdraw (hl : l.stackTraces = false) (S : Mem) (ng nm nc t pa : Nat) (h : KI S ng nm nc t pa) (x : Int32) : CXV l yX5_withdraw cX5_withdraw 3 none { frames := 7, cells := 2, slots := 12, locals := 103 } D ad CNT ca SR (SH ad ca S) [.ref (ad 0 0), .int (x)] (PMm ad ca (wdC S x nc) (uM S 9 (ix x) 4 (nI 3))) (PXm [xIO, xIS] (wdC S x nc)) := by
  have h0 := h
  obtain ⟨⟨hg, hng0, hng⟩, ⟨hm, hnm⟩, ⟨hc, hnc⟩, ⟨ht, htb⟩, ⟨hpa, hpab⟩, hpar, hmk, hcell, hown⟩ := h
  refine CXV.of _ RX5 (by decide +kernel) rfl (Nat.le_of_ble_eq_true rfl) ?_
  intro p9 e9 s9 m9 a9 b9 me9 c9 A9 hB hr hex
  refine g_aload_n hB 0 dX5_withdraw_0 rfl rfl ?_
  refine g_iload_n hB 1 dX5_withdraw_1 rfl rfl ?_
  refine g_callXVV hB hex (c_X5_requireChange hl _ x nc hc hnc) k_X5_179 rfl yk_X5_requireChange ⟨Nat.le_of_ble_eq_true rfl, Nat.le_of_ble_eq_true rfl⟩ ⟨(by decide), _, _, _, rfl, rfl, rfl⟩ rfl (Nat.le_of_ble_eq_true rfl) ⟨Nat.le_of_ble_eq_true rfl, Nat.le_of_ble_eq_true rfl⟩ dX5_withdraw_2 ⟨Nat.le_of_ble_eq_true rfl, Nat.le_of_ble_eq_true rfl⟩ (fun X hX => px1 hX.1 (by simp only [wdC, hX.2, cond_true, cond_false, decide_true, decide_false, Bool.and_true, Bool.true_and, Bool.and_false, Bool.false_and, Bool.or_true, Bool.true_or, Bool.or_false, Bool.false_or, Bool.not_true, Bool.not_false, not_true_eq_false, not_false_eq_true, ne_eq, Option.isSome])) ?_
  rintro _ ⟨q_2, rfl⟩
  obtain ⟨d, hd, rfl⟩ := rgB_t q_2
  have id : ix (nI d) = d := ix_nI (by omega)
  refine g_aload_n hB 0 dX5_withdraw_5 rfl rfl ?_
  refine g_get (ci := 5) (T := TX5) (N := 16) hB in_X5 rfl 0 0 8 (by decide) (by decide) rfl tw_fl_X5_37 rfl dX5_withdraw_6 ?_
  refine g_iload_n hB 1 dX5_withdraw_9 rfl rfl ?_
  refine g_aald hB 4 0 d 3 (n := 40) (by decide) rfl rfl (by first | assumption | omega) (Nat.le_of_ble_eq_true rfl) rfl dX5_withdraw_10 ?_
  refine g_astore_n hB 2 dX5_withdraw_11 rfl (by decide) ?_
  refine g_aload_n hB 2 dX5_withdraw_12 rfl rfl ?_
  refine g_get (ci := 0) (T := TX0) (N := 8) hB in_X0 rfl 9 d 4 (show d < 40 by first | assumption | omega) (by decide) rfl tw_fl_X5_195 rfl dX5_withdraw_13 ?_
  refine g_if_eq hB 29 dX5_withdraw_16 (by decide) (fun c_16 => ?_) (fun c_16 => ?_)
  · refine g_aload_n hB 2 dX5_withdraw_29 rfl rfl ?_
    refine g_iconst hB (nI 3) dX5_withdraw_30 rfl ?_
    refine s_put (ci := 0) (T := TX0) (N := 8) hB in_X0 rfl tyX0 tyX0_ok nmX0 9 d 4 (show d < 40 by first | assumption | omega) (by decide) rfl rfl tw_fl_X5_195 rfl rfl rfl (Nat.le_of_ble_eq_true rfl) dX5_withdraw_31 ?_
    exact g_vxret hB hr (Nat.le_of_ble_eq_true rfl) (Nat.le_of_ble_eq_true rfl) (⟨by simp only [wdC, q_2, id, c_16, cond_true, cond_false, decide_true, decide_false, Bool.and_true, Bool.true_and, Bool.and_false, Bool.false_and, Bool.or_true, Bool.true_or, Bool.or_false, Bool.false_or, Bool.not_true, Bool.not_false, not_true_eq_false, not_false_eq_true, ne_eq, Option.isSome], by rw [id]⟩) dX5_withdraw_34
  · exact g_throwS hl hB hex "the change is not OPEN" th_IS (List.mem_of_getElem? (i := 20) rfl) dX5_withdraw_19 dX5_withdraw_22 dX5_withdraw_23 dX5_withdraw_25 dX5_withdraw_28 ⟨Nat.le_of_ble_eq_true rfl, Nat.le_of_ble_eq_true rfl, Nat.le_of_ble_eq_true rfl, Nat.le_of_ble_eq_true rfl⟩ ⟨Nat.le_of_ble_eq_true rfl, Nat.le_of_ble_eq_true rfl⟩ (px2 rfl (by simp only [wdC, q_2, id, c_16, cond_true, cond_false, decide_true, decide_false, Bool.and_true, Bool.true_and, Bool.and_false, Bool.false_and, Bool.or_true, Bool.true_or, Bool.or_false, Bool.false_or, Bool.not_true, Bool.not_false, not_true_eq_false, not_false_eq_true, ne_eq, Option.isSome]))
theorem c_X5_exclude (hl : l.stackTraces = false) (S : Mem) (x y : Int32) (b : Bool) : CXI l yX5_exclude cX5_exclude 5 (some .boolean) { frames := 7, cells := 3, slots := 18, locals := 102 } D ad CNT ca SR (SH ad ca S) [.ref (ad 0 0), .int (x), .int (y), .int (bI (b))] (PRm ad ca (exC x y) (bI (cntI (S 1 2 (ix x)) y)) (exM S (ix x) (ix y) b)) (PXm [xIO, xIA] (exC x y)) := by
  refine CXI.of _ RX5 (by decide +kernel) rfl (Nat.le_of_ble_eq_true rfl) ?_
  intro p9 e9 s9 m9 a9 b9 me9 c9 A9 hB hr hex
  refine g_iload_n hB 1 dX5_exclude_0 rfl rfl ?_
  refine g_callXSV hB hex (c_X5_requireKey hl _ x) k_X5_158 yk_X5_requireKey ⟨Nat.le_of_ble_eq_true rfl, Nat.le_of_ble_eq_true rfl⟩ rfl (Nat.le_of_ble_eq_true rfl) ⟨Nat.le_of_ble_eq_true rfl, Nat.le_of_ble_eq_true rfl⟩ dX5_exclude_1 ⟨Nat.le_of_ble_eq_true rfl, Nat.le_of_ble_eq_true rfl⟩ (fun X hX => px1 hX.1 (by simp only [exC, hX.2, cond_true, cond_false, decide_true, decide_false, Bool.and_true, Bool.true_and, Bool.and_false, Bool.false_and, Bool.or_true, Bool.true_or, Bool.or_false, Bool.false_or, Bool.not_true, Bool.not_false, not_true_eq_false, not_false_eq_true, ne_eq, Option.isSome])) ?_
  rintro _ ⟨q_1, rfl⟩
  obtain ⟨k, hk, rfl⟩ := rgB_t q_1
  have ik : ix (nI k) = k := ix_nI (by omega)
  refine g_iload_n hB 2 dX5_exclude_4 rfl rfl ?_
  refine g_callXSV hB hex (c_X5_requireKey hl _ y) k_X5_158 yk_X5_requireKey ⟨Nat.le_of_ble_eq_true rfl, Nat.le_of_ble_eq_true rfl⟩ rfl (Nat.le_of_ble_eq_true rfl) ⟨Nat.le_of_ble_eq_true rfl, Nat.le_of_ble_eq_true rfl⟩ dX5_exclude_5 ⟨Nat.le_of_ble_eq_true rfl, Nat.le_of_ble_eq_true rfl⟩ (fun X hX => px1 hX.1 (by simp only [exC, q_1, ik, hX.2, cond_true, cond_false, decide_true, decide_false, Bool.and_true, Bool.true_and, Bool.and_false, Bool.false_and, Bool.or_true, Bool.true_or, Bool.or_false, Bool.false_or, Bool.not_true, Bool.not_false, not_true_eq_false, not_false_eq_true, ne_eq, Option.isSome])) ?_
  rintro _ ⟨q_5, rfl⟩
  obtain ⟨o, ho, rfl⟩ := rgB_t q_5
  have io : ix (nI o) = o := ix_nI (by omega)
  refine g_iload_n hB 1 dX5_exclude_8 rfl rfl ?_
  refine g_iload_n hB 2 dX5_exclude_9 rfl rfl ?_
  refine n_icmp_ne hB k o 23 dX5_exclude_10 (by decide) (by omega) (by omega) (fun c_10 => ?_) (fun c_10 => ?_)
  · have d_10 : decide (k = o) = false := decide_eq_false c_10
    refine g_aload_n hB 0 dX5_exclude_23 rfl rfl ?_
    refine g_get (ci := 5) (T := TX5) (N := 16) hB in_X5 rfl 0 0 12 (by decide) (by decide) rfl tw_fl_X5_41 rfl dX5_exclude_24 ?_
    refine g_iload_n hB 1 dX5_exclude_27 rfl rfl ?_
    refine g_iald hB 1 2 k (n := 6) (by decide) rfl (by first | assumption | omega) (Nat.le_of_ble_eq_true rfl) dX5_exclude_28 ?_
    refine g_iload_n hB 2 dX5_exclude_29 rfl rfl ?_
    refine g_callSI hB (c_X5_contains _ _ _) k_X5_208 yk_X5_contains ⟨Nat.le_of_ble_eq_true rfl, Nat.le_of_ble_eq_true rfl⟩ rfl (Nat.le_of_ble_eq_true rfl) ⟨Nat.le_of_ble_eq_true rfl, Nat.le_of_ble_eq_true rfl⟩ dX5_exclude_30 ?_
    rintro _ _ ⟨rfl, rfl⟩
    refine g_istore hB 4 dX5_exclude_33 (by decide) ?_
    refine g_aload_n hB 0 dX5_exclude_35 rfl rfl ?_
    refine g_get (ci := 5) (T := TX5) (N := 16) hB in_X5 rfl 0 0 12 (by decide) (by decide) rfl tw_fl_X5_41 rfl dX5_exclude_36 ?_
    refine g_iload_n hB 1 dX5_exclude_39 rfl rfl ?_
    refine g_aload_n hB 0 dX5_exclude_40 rfl rfl ?_
    refine g_get (ci := 5) (T := TX5) (N := 16) hB in_X5 rfl 0 0 12 (by decide) (by decide) rfl tw_fl_X5_41 rfl dX5_exclude_41 ?_
    refine g_iload_n hB 1 dX5_exclude_44 rfl rfl ?_
    refine g_iald hB 1 2 k (n := 6) (by decide) rfl (by first | assumption | omega) (Nat.le_of_ble_eq_true rfl) dX5_exclude_45 ?_
    refine g_iload_n hB 2 dX5_exclude_46 rfl rfl ?_
    refine g_iload_n hB 3 dX5_exclude_47 rfl rfl ?_
    refine g_callSI hB (c_X5_with _ _ _ b) k_X5_212 yk_X5_with ⟨Nat.le_of_ble_eq_true rfl, Nat.le_of_ble_eq_true rfl⟩ rfl (Nat.le_of_ble_eq_true rfl) ⟨Nat.le_of_ble_eq_true rfl, Nat.le_of_ble_eq_true rfl⟩ dX5_exclude_48 ?_
    rintro _ _ ⟨rfl, rfl⟩
    refine s_iast hB 1 2 k (n := 6) (by decide) (fun _ => rfl) (by first | assumption | omega) (Nat.le_of_ble_eq_true rfl) dX5_exclude_51 ?_
    refine g_aload_n hB 0 dX5_exclude_52 rfl rfl ?_
    refine g_get (ci := 5) (T := TX5) (N := 16) hB in_X5 rfl 0 0 12 (by decide) (by decide) rfl tw_fl_X5_41 rfl dX5_exclude_53 ?_
    refine g_iload_n hB 2 dX5_exclude_56 rfl rfl ?_
    refine g_aload_n hB 0 dX5_exclude_57 rfl rfl ?_
    refine g_get (ci := 5) (T := TX5) (N := 16) hB in_X5 rfl 0 0 12 (by decide) (by decide) rfl tw_fl_X5_41 rfl dX5_exclude_58 ?_
    refine g_iload_n hB 2 dX5_exclude_61 rfl rfl ?_
    refine g_iald hB 1 2 o (n := 6) (by decide) rfl (by first | assumption | omega) (Nat.le_of_ble_eq_true rfl) dX5_exclude_62 ?_
    refine g_iload_n hB 1 dX5_exclude_63 rfl rfl ?_
    refine g_iload_n hB 3 dX5_exclude_64 rfl rfl ?_
    refine g_callSI hB (c_X5_with _ _ _ b) k_X5_212 yk_X5_with ⟨Nat.le_of_ble_eq_true rfl, Nat.le_of_ble_eq_true rfl⟩ rfl (Nat.le_of_ble_eq_true rfl) ⟨Nat.le_of_ble_eq_true rfl, Nat.le_of_ble_eq_true rfl⟩ dX5_exclude_65 ?_
    rintro _ _ ⟨rfl, rfl⟩
    refine s_iast hB 1 2 o (n := 6) (by decide) (fun _ => rfl) (by first | assumption | omega) (Nat.le_of_ble_eq_true rfl) dX5_exclude_68 ?_
    refine g_iload hB 4 dX5_exclude_69 rfl ?_
    exact g_ixret hB hr (nar_b _) (Nat.le_of_ble_eq_true rfl) (Nat.le_of_ble_eq_true rfl) (⟨by simp only [exC, q_1, ik, q_5, io, d_10, cond_true, cond_false, decide_true, decide_false, Bool.and_true, Bool.true_and, Bool.and_false, Bool.false_and, Bool.or_true, Bool.true_or, Bool.or_false, Bool.false_or, Bool.not_true, Bool.not_false, not_true_eq_false, not_false_eq_true, ne_eq, Option.isSome], by rw [ik], by rw [ik, io]; rfl⟩) dX5_exclude_71
  · have d_10 : decide (k = o) = true := decide_eq_true c_10
    exact g_throwS hl hB hex "both keys are the same" th_IA (List.mem_of_getElem? (i := 16) rfl) dX5_exclude_13 dX5_exclude_16 dX5_exclude_17 dX5_exclude_19 dX5_exclude_22 ⟨Nat.le_of_ble_eq_true rfl, Nat.le_of_ble_eq_true rfl, Nat.le_of_ble_eq_true rfl, Nat.le_of_ble_eq_true rfl⟩ ⟨Nat.le_of_ble_eq_true rfl, Nat.le_of_ble_eq_true rfl⟩ (px2 rfl (by simp only [exC, q_1, ik, q_5, io, d_10, cond_true, cond_false, decide_true, decide_false, Bool.and_true, Bool.true_and, Bool.and_false, Bool.false_and, Bool.or_true, Bool.true_or, Bool.or_false, Bool.false_or, Bool.not_true, Bool.not_false, not_true_eq_false, not_false_eq_true, ne_eq, Option.isSome]))
theorem c_X5_state (hl : l.stackTraces = false) (S : Mem) (ng nm nc t pa : Nat) (h : KI S ng nm nc t pa) (x : Int32) : CXI l yX5_state cX5_state 2 (some .int) { frames := 7, cells := 1, slots := 6, locals := 103 } D ad CNT ca SR (SH ad ca S) [.ref (ad 0 0), .int (x)] (PRm ad ca (rqC x nc) (S 9 (ix x) 4) (S)) (PXm [xIO] (rqC x nc)) := by
  have h0 := h
  obtain ⟨⟨hg, hng0, hng⟩, ⟨hm, hnm⟩, ⟨hc, hnc⟩, ⟨ht, htb⟩, ⟨hpa, hpab⟩, hpar, hmk, hcell, hown⟩ := h
  refine CXI.of _ RX5 (by decide +kernel) rfl (Nat.le_of_ble_eq_true rfl) ?_
  intro p9 e9 s9 m9 a9 b9 me9 c9 A9 hB hr hex
  refine g_aload_n hB 0 dX5_state_0 rfl rfl ?_
  refine g_iload_n hB 1 dX5_state_1 rfl rfl ?_
  refine g_callXVV hB hex (c_X5_requireChange hl _ x nc hc hnc) k_X5_179 rfl yk_X5_requireChange ⟨Nat.le_of_ble_eq_true rfl, Nat.le_of_ble_eq_true rfl⟩ ⟨(by decide), _, _, _, rfl, rfl, rfl⟩ rfl (Nat.le_of_ble_eq_true rfl) ⟨Nat.le_of_ble_eq_true rfl, Nat.le_of_ble_eq_true rfl⟩ dX5_state_2 ⟨Nat.le_of_ble_eq_true rfl, Nat.le_of_ble_eq_true rfl⟩ (fun X hX => px1 hX.1 (by simp only [rqC, hX.2, cond_true, cond_false, decide_true, decide_false, Bool.and_true, Bool.true_and, Bool.and_false, Bool.false_and, Bool.or_true, Bool.true_or, Bool.or_false, Bool.false_or, Bool.not_true, Bool.not_false, not_true_eq_false, not_false_eq_true, ne_eq, Option.isSome])) ?_
  rintro _ ⟨q_2, rfl⟩
  obtain ⟨d, hd, rfl⟩ := rgB_t q_2
  have id : ix (nI d) = d := ix_nI (by omega)
  refine g_aload_n hB 0 dX5_state_5 rfl rfl ?_
  refine g_get (ci := 5) (T := TX5) (N := 16) hB in_X5 rfl 0 0 8 (by decide) (by decide) rfl tw_fl_X5_37 rfl dX5_state_6 ?_
  refine g_iload_n hB 1 dX5_state_9 rfl rfl ?_
  refine g_aald hB 4 0 d 3 (n := 40) (by decide) rfl rfl (by first | assumption | omega) (Nat.le_of_ble_eq_true rfl) rfl dX5_state_10 ?_
  refine g_get (ci := 0) (T := TX0) (N := 8) hB in_X0 rfl 9 d 4 (show d < 40 by first | assumption | omega) (by decide) rfl tw_fl_X5_195 rfl dX5_state_11 ?_
  exact g_ixret hB hr rfl (Nat.le_of_ble_eq_true rfl) (Nat.le_of_ble_eq_true rfl) (⟨by simp only [rqC, q_2, id, cond_true, cond_false, decide_true, decide_false, Bool.and_true, Bool.true_and, Bool.and_false, Bool.false_and, Bool.or_true, Bool.true_or, Bool.or_false, Bool.false_or, Bool.not_true, Bool.not_false, not_true_eq_false, not_false_eq_true, ne_eq, Option.isSome], by rw [id], rfl⟩) dX5_state_14
theorem c_X5_rank (hl : l.stackTraces = false) (S : Mem) (ng nm nc t pa : Nat) (h : KI S ng nm nc t pa) (x : Int32) : CXI l yX5_rank cX5_rank 2 (some .int) { frames := 7, cells := 1, slots := 6, locals := 103 } D ad CNT ca SR (SH ad ca S) [.ref (ad 0 0), .int (x)] (PRm ad ca (rqC x nc) (S 14 0 (ix x)) (S)) (PXm [xIO] (rqC x nc)) := by
  have h0 := h
  obtain ⟨⟨hg, hng0, hng⟩, ⟨hm, hnm⟩, ⟨hc, hnc⟩, ⟨ht, htb⟩, ⟨hpa, hpab⟩, hpar, hmk, hcell, hown⟩ := h
  refine CXI.of _ RX5 (by decide +kernel) rfl (Nat.le_of_ble_eq_true rfl) ?_
  intro p9 e9 s9 m9 a9 b9 me9 c9 A9 hB hr hex
  refine g_aload_n hB 0 dX5_rank_0 rfl rfl ?_
  refine g_iload_n hB 1 dX5_rank_1 rfl rfl ?_
  refine g_callXVV hB hex (c_X5_requireChange hl _ x nc hc hnc) k_X5_179 rfl yk_X5_requireChange ⟨Nat.le_of_ble_eq_true rfl, Nat.le_of_ble_eq_true rfl⟩ ⟨(by decide), _, _, _, rfl, rfl, rfl⟩ rfl (Nat.le_of_ble_eq_true rfl) ⟨Nat.le_of_ble_eq_true rfl, Nat.le_of_ble_eq_true rfl⟩ dX5_rank_2 ⟨Nat.le_of_ble_eq_true rfl, Nat.le_of_ble_eq_true rfl⟩ (fun X hX => px1 hX.1 (by simp only [rqC, hX.2, cond_true, cond_false, decide_true, decide_false, Bool.and_true, Bool.true_and, Bool.and_false, Bool.false_and, Bool.or_true, Bool.true_or, Bool.or_false, Bool.false_or, Bool.not_true, Bool.not_false, not_true_eq_false, not_false_eq_true, ne_eq, Option.isSome])) ?_
  rintro _ ⟨q_2, rfl⟩
  obtain ⟨d, hd, rfl⟩ := rgB_t q_2
  have id : ix (nI d) = d := ix_nI (by omega)
  refine g_aload_n hB 0 dX5_rank_5 rfl rfl ?_
  refine g_get (ci := 5) (T := TX5) (N := 16) hB in_X5 rfl 0 0 13 (by decide) (by decide) rfl tw_fl_X5_47 rfl dX5_rank_6 ?_
  refine g_iload_n hB 1 dX5_rank_9 rfl rfl ?_
  refine g_callVI hB (c_X1_rankOf _ 0 (by decide) _) k_X5_216 rfl yk_X1_rankOf ⟨Nat.le_of_ble_eq_true rfl, Nat.le_of_ble_eq_true rfl⟩ ⟨(by decide), _, _, _, rfl, rfl, rfl⟩ rfl (Nat.le_of_ble_eq_true rfl) ⟨Nat.le_of_ble_eq_true rfl, Nat.le_of_ble_eq_true rfl⟩ dX5_rank_10 ?_
  rintro _ _ ⟨rfl, rfl⟩
  refine g_top ((S 14 0 d)) (rkV_n (by omega)) ?_
  exact g_ixret hB hr rfl (Nat.le_of_ble_eq_true rfl) (Nat.le_of_ble_eq_true rfl) (⟨by simp only [rqC, q_2, id, cond_true, cond_false, decide_true, decide_false, Bool.and_true, Bool.true_and, Bool.and_false, Bool.false_and, Bool.or_true, Bool.true_or, Bool.or_false, Bool.false_or, Bool.not_true, Bool.not_false, not_true_eq_false, not_false_eq_true, ne_eq, Option.isSome], by rw [id], rfl⟩) dX5_rank_13
theorem c_X5_approvals (hl : l.stackTraces = false) (S : Mem) (ng nm nc t pa : Nat) (h : KI S ng nm nc t pa) (x : Int32) : CXI l yX5_approvals cX5_approvals 2 (some .int) { frames := 7, cells := 1, slots := 6, locals := 103 } D ad CNT ca SR (SH ad ca S) [.ref (ad 0 0), .int (x)] (PRm ad ca (rqC x nc) (bcF (S 9 (ix x) 5)) (S)) (PXm [xIO] (rqC x nc)) := by
  have h0 := h
  obtain ⟨⟨hg, hng0, hng⟩, ⟨hm, hnm⟩, ⟨hc, hnc⟩, ⟨ht, htb⟩, ⟨hpa, hpab⟩, hpar, hmk, hcell, hown⟩ := h
  refine CXI.of _ RX5 (by decide +kernel) rfl (Nat.le_of_ble_eq_true rfl) ?_
  intro p9 e9 s9 m9 a9 b9 me9 c9 A9 hB hr hex
  refine g_aload_n hB 0 dX5_approvals_0 rfl rfl ?_
  refine g_iload_n hB 1 dX5_approvals_1 rfl rfl ?_
  refine g_callXVV hB hex (c_X5_requireChange hl _ x nc hc hnc) k_X5_179 rfl yk_X5_requireChange ⟨Nat.le_of_ble_eq_true rfl, Nat.le_of_ble_eq_true rfl⟩ ⟨(by decide), _, _, _, rfl, rfl, rfl⟩ rfl (Nat.le_of_ble_eq_true rfl) ⟨Nat.le_of_ble_eq_true rfl, Nat.le_of_ble_eq_true rfl⟩ dX5_approvals_2 ⟨Nat.le_of_ble_eq_true rfl, Nat.le_of_ble_eq_true rfl⟩ (fun X hX => px1 hX.1 (by simp only [rqC, hX.2, cond_true, cond_false, decide_true, decide_false, Bool.and_true, Bool.true_and, Bool.and_false, Bool.false_and, Bool.or_true, Bool.true_or, Bool.or_false, Bool.false_or, Bool.not_true, Bool.not_false, not_true_eq_false, not_false_eq_true, ne_eq, Option.isSome])) ?_
  rintro _ ⟨q_2, rfl⟩
  obtain ⟨d, hd, rfl⟩ := rgB_t q_2
  have id : ix (nI d) = d := ix_nI (by omega)
  refine g_aload_n hB 0 dX5_approvals_5 rfl rfl ?_
  refine g_get (ci := 5) (T := TX5) (N := 16) hB in_X5 rfl 0 0 8 (by decide) (by decide) rfl tw_fl_X5_37 rfl dX5_approvals_6 ?_
  refine g_iload_n hB 1 dX5_approvals_9 rfl rfl ?_
  refine g_aald hB 4 0 d 3 (n := 40) (by decide) rfl rfl (by first | assumption | omega) (Nat.le_of_ble_eq_true rfl) rfl dX5_approvals_10 ?_
  refine g_callVI hB (c_X0_countGood _ d (by omega)) k_X5_198 rfl yk_X0_countGood ⟨Nat.le_of_ble_eq_true rfl, Nat.le_of_ble_eq_true rfl⟩ ⟨(show d < 40 by first | assumption | omega), _, _, _, rfl, rfl, rfl⟩ rfl (Nat.le_of_ble_eq_true rfl) ⟨Nat.le_of_ble_eq_true rfl, Nat.le_of_ble_eq_true rfl⟩ dX5_approvals_11 ?_
  rintro _ _ ⟨rfl, rfl⟩
  exact g_ixret hB hr rfl (Nat.le_of_ble_eq_true rfl) (Nat.le_of_ble_eq_true rfl) (⟨by simp only [rqC, q_2, id, cond_true, cond_false, decide_true, decide_false, Bool.and_true, Bool.true_and, Bool.and_false, Bool.false_and, Bool.or_true, Bool.true_or, Bool.or_false, Bool.false_or, Bool.not_true, Bool.not_false, not_true_eq_false, not_false_eq_true, ne_eq, Option.isSome], by rw [id], rfl⟩) dX5_approvals_14
theorem c_X5_told (hl : l.stackTraces = false) (S : Mem) (ng nm nc t pa : Nat) (h : KI S ng nm nc t pa) (x y : Int32) : CXI l yX5_told cX5_told 4 (some .int) { frames := 7, cells := 2, slots := 12, locals := 103 } D ad CNT ca SR (SH ad ca S) [.ref (ad 0 0), .int (x), .int (y)] (PRm ad ca (toC x y ng nm) (toV S nc (ix (slF x ng nm)) (ix y)) (S)) (PXm [xIO] (toC x y ng nm)) := by
  have h0 := h
  obtain ⟨⟨hg, hng0, hng⟩, ⟨hm, hnm⟩, ⟨hc, hnc⟩, ⟨ht, htb⟩, ⟨hpa, hpab⟩, hpar, hmk, hcell, hown⟩ := h
  refine CXI.of _ RX5 (by decide +kernel) rfl (Nat.le_of_ble_eq_true rfl) ?_
  intro p9 e9 s9 m9 a9 b9 me9 c9 A9 hB hr hex
  refine g_aload_n hB 0 dX5_told_0 rfl rfl ?_
  refine g_iload_n hB 1 dX5_told_1 rfl rfl ?_
  refine g_callXVV hB hex (c_X5_requirePlace hl _ x ng nm hg hng hm hnm) k_X5_155 rfl yk_X5_requirePlace ⟨Nat.le_of_ble_eq_true rfl, Nat.le_of_ble_eq_true rfl⟩ ⟨(by decide), _, _, _, rfl, rfl, rfl⟩ rfl (Nat.le_of_ble_eq_true rfl) ⟨Nat.le_of_ble_eq_true rfl, Nat.le_of_ble_eq_true rfl⟩ dX5_told_2 ⟨Nat.le_of_ble_eq_true rfl, Nat.le_of_ble_eq_true rfl⟩ (fun X hX => px1 hX.1 (by simp only [toC, hX.2, cond_true, cond_false, decide_true, decide_false, Bool.and_true, Bool.true_and, Bool.and_false, Bool.false_and, Bool.or_true, Bool.true_or, Bool.or_false, Bool.false_or, Bool.not_true, Bool.not_false, not_true_eq_false, not_false_eq_true, ne_eq, Option.isSome])) ?_
  rintro _ ⟨q_2, rfl⟩
  obtain ⟨s, hs, es⟩ := slF_in hng hnm q_2
  have is : ix (slF x ng nm) = s := by rw [es]; exact ix_nI (by omega)
  refine g_iload_n hB 2 dX5_told_5 rfl rfl ?_
  refine g_callXSV hB hex (c_X5_requireKey hl _ y) k_X5_158 yk_X5_requireKey ⟨Nat.le_of_ble_eq_true rfl, Nat.le_of_ble_eq_true rfl⟩ rfl (Nat.le_of_ble_eq_true rfl) ⟨Nat.le_of_ble_eq_true rfl, Nat.le_of_ble_eq_true rfl⟩ dX5_told_6 ⟨Nat.le_of_ble_eq_true rfl, Nat.le_of_ble_eq_true rfl⟩ (fun X hX => px1 hX.1 (by simp only [toC, q_2, hX.2, cond_true, cond_false, decide_true, decide_false, Bool.and_true, Bool.true_and, Bool.and_false, Bool.false_and, Bool.or_true, Bool.true_or, Bool.or_false, Bool.false_or, Bool.not_true, Bool.not_false, not_true_eq_false, not_false_eq_true, ne_eq, Option.isSome])) ?_
  rintro _ ⟨q_6, rfl⟩
  obtain ⟨k, hk, rfl⟩ := rgB_t q_6
  have ik : ix (nI k) = k := ix_nI (by omega)
  refine g_aload_n hB 0 dX5_told_9 rfl rfl ?_
  refine g_aload_n hB 0 dX5_told_10 rfl rfl ?_
  refine g_get (ci := 5) (T := TX5) (N := 16) hB in_X5 rfl 0 0 13 (by decide) (by decide) rfl tw_fl_X5_47 rfl dX5_told_11 ?_
  refine g_get (ci := 1) (T := TX1) (N := 2) hB in_X1 rfl 12 0 0 (by decide) (by decide) rfl tw_fl_X5_219 rfl dX5_told_14 ?_
  refine g_aload_n hB 0 dX5_told_17 rfl rfl ?_
  refine g_iload_n hB 1 dX5_told_18 rfl rfl ?_
  refine g_callVI hB (c_X5_slotOf _ _ ng nm hg hng hm hnm) k_X5_168 rfl yk_X5_slotOf ⟨Nat.le_of_ble_eq_true rfl, Nat.le_of_ble_eq_true rfl⟩ ⟨(by decide), _, _, _, rfl, rfl, rfl⟩ rfl (Nat.le_of_ble_eq_true rfl) ⟨Nat.le_of_ble_eq_true rfl, Nat.le_of_ble_eq_true rfl⟩ dX5_told_19 ?_
  rintro _ _ ⟨rfl, rfl⟩
  refine g_top (nI (s)) (es) ?_
  refine g_iload_n hB 2 dX5_told_22 rfl rfl ?_
  refine g_callSI hB (c_X5_cellOf _ _ _) k_X5_171 yk_X5_cellOf ⟨Nat.le_of_ble_eq_true rfl, Nat.le_of_ble_eq_true rfl⟩ rfl (Nat.le_of_ble_eq_true rfl) ⟨Nat.le_of_ble_eq_true rfl, Nat.le_of_ble_eq_true rfl⟩ dX5_told_23 ?_
  rintro _ _ ⟨rfl, rfl⟩
  refine g_callVI hB (c_X9_get13 _ 0 (by decide) (s * 6 + k) (by omega)) k_X5_223 rfl yk_X9_get ⟨Nat.le_of_ble_eq_true rfl, Nat.le_of_ble_eq_true rfl⟩ ⟨(by decide), _, _, _, rfl, rfl, rfl⟩ rfl (Nat.le_of_ble_eq_true rfl) ⟨Nat.le_of_ble_eq_true rfl, Nat.le_of_ble_eq_true rfl⟩ dX5_told_26 ?_
  rintro _ _ ⟨rfl, rfl⟩
  refine g_callVI hB (c_X5_whatIsToldBy _ _ nc hc hnc) k_X5_228 rfl yk_X5_whatIsToldBy ⟨Nat.le_of_ble_eq_true rfl, Nat.le_of_ble_eq_true rfl⟩ ⟨(by decide), _, _, _, rfl, rfl, rfl⟩ rfl (Nat.le_of_ble_eq_true rfl) ⟨Nat.le_of_ble_eq_true rfl, Nat.le_of_ble_eq_true rfl⟩ dX5_told_29 ?_
  rintro _ _ ⟨rfl, rfl⟩
  refine g_istore_n hB 3 dX5_told_32 rfl (by decide) ?_
  refine g_iload_n hB 3 dX5_told_33 rfl rfl ?_
  refine g_bipush hB (nI 101) dX5_told_34 rfl ?_
  refine g_icmp_ne hB 43 dX5_told_36 (by decide) (fun c_36 => ?_) (fun c_36 => ?_)
  · have e : toV S nc s k = cWh S nc (S 13 0 (s * 6 + k)) := by unfold toV; rw [decide_eq_false c_36]; rfl
    refine g_iload_n hB 3 dX5_told_43 rfl rfl ?_
    exact g_ixret hB hr rfl (Nat.le_of_ble_eq_true rfl) (Nat.le_of_ble_eq_true rfl) (⟨by simp only [toC, q_2, q_6, ik, c_36, cond_true, cond_false, decide_true, decide_false, Bool.and_true, Bool.true_and, Bool.and_false, Bool.false_and, Bool.or_true, Bool.true_or, Bool.or_false, Bool.false_or, Bool.not_true, Bool.not_false, not_true_eq_false, not_false_eq_true, ne_eq, Option.isSome], by rw [is, ik, e], rfl⟩) dX5_told_44
  · have e : toV S nc s k = -1 := by unfold toV; rw [decide_eq_true c_36]; rfl
    refine g_iconst hB (-1) dX5_told_39 rfl ?_
    refine g_goto hB 44 dX5_told_40 (by decide) ?_
    exact g_ixret hB hr rfl (Nat.le_of_ble_eq_true rfl) (Nat.le_of_ble_eq_true rfl) (⟨by simp only [toC, q_2, q_6, ik, c_36, cond_true, cond_false, decide_true, decide_false, Bool.and_true, Bool.true_and, Bool.and_false, Bool.false_and, Bool.or_true, Bool.true_or, Bool.or_false, Bool.false_or, Bool.not_true, Bool.not_false, not_true_eq_false, not_false_eq_true, ne_eq, Option.isSome], by rw [is, ik, e], rfl⟩) dX5_told_44
end X8
