/-! the law's helpers -/
section LH
variable {l : Launch} {D : va_G} {ad : Nat → Nat → Nat} {ca : Nat → ClassId}

def HI (ad : Nat → Nat → Nat) (ca : Nat → ClassId) (code : Nat) (S T : Mem) : Int32 → Rl → Prop := fun r E' => r = nI code ∧ E' = SH ad ca (bif Nat.beq code 0 then T else S)
theorem c_L_setDuty (hl : l.stackTraces = false) (S : Mem) (x : Int32) (y : Int32) : CHI l yL_setDuty cL_setDuty 5 (some .int) { frames := 7, cells := 1, slots := 6, locals := 105 } D ad CNT ca SR (SH ad ca S) [.ref (ad 0 0), .int (x), .int (y), .ref (ad 19 0)] [(0, 10, 13, 13)] (HI ad ca (sdC x y) S (uM (uM S 1 0 (ix x) y) 19 0 0 (S 1 0 (ix x)))) := by
  refine CHI.of _ RL (by decide +kernel) rfl (Nat.le_of_ble_eq_true rfl) ?_
  intro p9 e9 s9 m9 a9 b9 me9 c9 A9 hB hr hT
  refine g_aload_n hB 3 dL_setDuty_0 rfl rfl ?_
  refine g_iconst hB (nI 0) dL_setDuty_1 rfl ?_
  refine g_aload_n hB 0 dL_setDuty_2 rfl rfl ?_
  refine g_iload_n hB 1 dL_setDuty_3 rfl rfl ?_
  refine g_iload_n hB 2 dL_setDuty_4 rfl rfl ?_
  refine g_callCVI hB hT (c_X5_setDuty hl _ _ _) k_L_7 rfl yk_X5_setDuty ⟨Nat.le_of_ble_eq_true rfl, Nat.le_of_ble_eq_true rfl⟩ ⟨(by decide), _, _, _, rfl, rfl, rfl⟩ rfl (Nat.le_of_ble_eq_true rfl) ⟨Nat.le_of_ble_eq_true rfl, Nat.le_of_ble_eq_true rfl⟩ dL_setDuty_5 (fun X hX => ?_) ?_
  · rcases pxc1 hX with ⟨e, rfl⟩
    · refine ⟨[], (0, 10, 13, 13), [], ca0 rfl (by decide) (by decide) (by decide) tw_cl_L_13 (by decide), fun q => ?_⟩
      refine g_astore hB 4 dL_setDuty_13 (by decide) ?_
      refine g_iconst hB (nI 1) dL_setDuty_15 rfl ?_
      exact g_iret hB hr rfl (Nat.le_of_ble_eq_true rfl) (Nat.le_of_ble_eq_true rfl) (⟨by rw [e], by rw [e]; rfl⟩) dL_setDuty_16
  rintro _ _ ⟨e, rfl, rfl⟩
  refine g_i2l hB dL_setDuty_8 ?_
  refine s_last hB 0 _ (rfl) dL_setDuty_9 (by decide) ?_
  refine g_goto hB 17 dL_setDuty_10 (by decide) ?_
  refine g_iconst hB (nI 0) dL_setDuty_17 rfl ?_
  exact g_iret hB hr rfl (Nat.le_of_ble_eq_true rfl) (Nat.le_of_ble_eq_true rfl) (⟨by rw [e], by rw [e]; rfl⟩) dL_setDuty_18
theorem c_L_leave (hl : l.stackTraces = false) (S : Mem) (ng nm nc t pa : Nat) (h : KI S ng nm nc t pa) (x : Int32) (b : Bool) : CHI l yL_leave cL_leave 5 (some .int) { frames := 8, cells := 2, slots := 12, locals := 133 } D ad CNT ca SR (SH ad ca S) [.ref (ad 0 0), .int (x), .int (bI (b)), .ref (ad 19 0)] [(0, 10, 13, 19), (0, 10, 17, 21)] (HI ad ca (leC S x) S (uM (leM S (ix x) nc nm b) 19 0 0 (leV S (ix x) nc b))) := by
  refine CHI.of _ RL (by decide +kernel) rfl (Nat.le_of_ble_eq_true rfl) ?_
  intro p9 e9 s9 m9 a9 b9 me9 c9 A9 hB hr hT
  refine g_aload_n hB 3 dL_leave_0 rfl rfl ?_
  refine g_iconst hB (nI 0) dL_leave_1 rfl ?_
  refine g_aload_n hB 0 dL_leave_2 rfl rfl ?_
  refine g_iload_n hB 1 dL_leave_3 rfl rfl ?_
  refine g_iload_n hB 2 dL_leave_4 rfl rfl ?_
  refine g_callCVI hB hT (c_X5_leave hl _ ng nm nc t pa h _ _) k_L_15 rfl yk_X5_leave ⟨Nat.le_of_ble_eq_true rfl, Nat.le_of_ble_eq_true rfl⟩ ⟨(by decide), _, _, _, rfl, rfl, rfl⟩ rfl (Nat.le_of_ble_eq_true rfl) ⟨Nat.le_of_ble_eq_true rfl, Nat.le_of_ble_eq_true rfl⟩ dL_leave_5 (fun X hX => ?_) ?_
  · rcases pxc2 hX with ⟨e, rfl⟩ | ⟨e, rfl⟩
    · refine ⟨[], (0, 10, 13, 19), [(0, 10, 17, 21)], ca0 rfl (by decide) (by decide) (by decide) tw_cl_L_19 (by decide), fun q => ?_⟩
      refine g_astore hB 4 dL_leave_13 (by decide) ?_
      refine g_iconst hB (nI 1) dL_leave_15 rfl ?_
      exact g_iret hB hr rfl (Nat.le_of_ble_eq_true rfl) (Nat.le_of_ble_eq_true rfl) (⟨by rw [e], by rw [e]; rfl⟩) dL_leave_16
    · refine ⟨[(0, 10, 13, 19)], (0, 10, 17, 21), [], ca1 rfl (by decide) (by decide) (by decide) tw_cl_L_21 (by decide) (by decide) tw_cl_L_19 (by decide), fun q => ?_⟩
      refine g_astore hB 4 dL_leave_17 (by decide) ?_
      refine g_iconst hB (nI 2) dL_leave_19 rfl ?_
      exact g_iret hB hr rfl (Nat.le_of_ble_eq_true rfl) (Nat.le_of_ble_eq_true rfl) (⟨by rw [e], by rw [e]; rfl⟩) dL_leave_20
  rintro _ _ ⟨e, rfl, rfl⟩
  refine g_i2l hB dL_leave_8 ?_
  refine s_last hB 0 _ (rfl) dL_leave_9 (by decide) ?_
  refine g_goto hB 21 dL_leave_10 (by decide) ?_
  refine g_iconst hB (nI 0) dL_leave_21 rfl ?_
  exact g_iret hB hr rfl (Nat.le_of_ble_eq_true rfl) (Nat.le_of_ble_eq_true rfl) (⟨by rw [e], by rw [e]; rfl⟩) dL_leave_22
theorem c_L_comeBack (hl : l.stackTraces = false) (S : Mem) (x : Int32) : CHI l yL_comeBack cL_comeBack 3 (some .int) { frames := 8, cells := 2, slots := 12, locals := 124 } D ad CNT ca SR (SH ad ca S) [.ref (ad 0 0), .int (x)] [(0, 5, 8, 19), (0, 5, 11, 21)] (HI ad ca (cbC S x) S (uM S 5 (ix x) 0 (nI 1))) := by
  refine CHI.of _ RL (by decide +kernel) rfl (Nat.le_of_ble_eq_true rfl) ?_
  intro p9 e9 s9 m9 a9 b9 me9 c9 A9 hB hr hT
  refine g_aload_n hB 0 dL_comeBack_0 rfl rfl ?_
  refine g_iload_n hB 1 dL_comeBack_1 rfl rfl ?_
  refine g_callCVV hB hT (c_X5_comeBack hl _ _) k_L_23 rfl yk_X5_comeBack ⟨Nat.le_of_ble_eq_true rfl, Nat.le_of_ble_eq_true rfl⟩ ⟨(by decide), _, _, _, rfl, rfl, rfl⟩ rfl (Nat.le_of_ble_eq_true rfl) ⟨Nat.le_of_ble_eq_true rfl, Nat.le_of_ble_eq_true rfl⟩ dL_comeBack_2 (fun X hX => ?_) ?_
  · rcases pxc2 hX with ⟨e, rfl⟩ | ⟨e, rfl⟩
    · refine ⟨[], (0, 5, 8, 19), [(0, 5, 11, 21)], ca0 rfl (by decide) (by decide) (by decide) tw_cl_L_19 (by decide), fun q => ?_⟩
      refine g_astore_n hB 2 dL_comeBack_8 rfl (by decide) ?_
      refine g_iconst hB (nI 1) dL_comeBack_9 rfl ?_
      exact g_iret hB hr rfl (Nat.le_of_ble_eq_true rfl) (Nat.le_of_ble_eq_true rfl) (⟨by rw [e], by rw [e]; rfl⟩) dL_comeBack_10
    · refine ⟨[(0, 5, 8, 19)], (0, 5, 11, 21), [], ca1 rfl (by decide) (by decide) (by decide) tw_cl_L_21 (by decide) (by decide) tw_cl_L_19 (by decide), fun q => ?_⟩
      refine g_astore_n hB 2 dL_comeBack_11 rfl (by decide) ?_
      refine g_iconst hB (nI 2) dL_comeBack_12 rfl ?_
      exact g_iret hB hr rfl (Nat.le_of_ble_eq_true rfl) (Nat.le_of_ble_eq_true rfl) (⟨by rw [e], by rw [e]; rfl⟩) dL_comeBack_13
  rintro _ ⟨e, rfl⟩
  refine g_goto hB 14 dL_comeBack_5 (by decide) ?_
  refine g_iconst hB (nI 0) dL_comeBack_14 rfl ?_
  exact g_iret hB hr rfl (Nat.le_of_ble_eq_true rfl) (Nat.le_of_ble_eq_true rfl) (⟨by rw [e], by rw [e]; rfl⟩) dL_comeBack_15
theorem c_L_pass (hl : l.stackTraces = false) (S : Mem) (ng nm nc t pa : Nat) (h : KI S ng nm nc t pa) (ht60 : t + 60 < 2 ^ 20) (x : Int32) : CHI l yL_pass cL_pass 4 (some .int) { frames := 7, cells := 1, slots := 6, locals := 138 } D ad CNT ca SR (SH ad ca S) [.ref (ad 0 0), .int (x), .ref (ad 19 0)] [(0, 9, 12, 13)] (HI ad ca (paC x) S (uM ((cPassN nc nm pa (ix x) (S, 0)).1) 19 0 0 (nI (cPassN nc nm pa (ix x) (S, 0)).2))) := by
  refine CHI.of _ RL (by decide +kernel) rfl (Nat.le_of_ble_eq_true rfl) ?_
  intro p9 e9 s9 m9 a9 b9 me9 c9 A9 hB hr hT
  refine g_aload_n hB 2 dL_pass_0 rfl rfl ?_
  refine g_iconst hB (nI 0) dL_pass_1 rfl ?_
  refine g_aload_n hB 0 dL_pass_2 rfl rfl ?_
  refine g_iload_n hB 1 dL_pass_3 rfl rfl ?_
  refine g_callCVI hB hT (c_X5_pass hl _ ng nm nc t pa h ht60 _) k_L_27 rfl yk_X5_pass ⟨Nat.le_of_ble_eq_true rfl, Nat.le_of_ble_eq_true rfl⟩ ⟨(by decide), _, _, _, rfl, rfl, rfl⟩ rfl (Nat.le_of_ble_eq_true rfl) ⟨Nat.le_of_ble_eq_true rfl, Nat.le_of_ble_eq_true rfl⟩ dL_pass_4 (fun X hX => ?_) ?_
  · rcases pxc1 hX with ⟨e, rfl⟩
    · refine ⟨[], (0, 9, 12, 13), [], ca0 rfl (by decide) (by decide) (by decide) tw_cl_L_13 (by decide), fun q => ?_⟩
      refine g_astore_n hB 3 dL_pass_12 rfl (by decide) ?_
      refine g_iconst hB (nI 1) dL_pass_13 rfl ?_
      exact g_iret hB hr rfl (Nat.le_of_ble_eq_true rfl) (Nat.le_of_ble_eq_true rfl) (⟨by rw [e], by rw [e]; rfl⟩) dL_pass_14
  rintro _ _ ⟨e, rfl, rfl⟩
  refine g_i2l hB dL_pass_7 ?_
  refine s_last hB 0 _ (rfl) dL_pass_8 (by decide) ?_
  refine g_goto hB 15 dL_pass_9 (by decide) ?_
  refine g_iconst hB (nI 0) dL_pass_15 rfl ?_
  exact g_iret hB hr rfl (Nat.le_of_ble_eq_true rfl) (Nat.le_of_ble_eq_true rfl) (⟨by rw [e], by rw [e]; rfl⟩) dL_pass_16
theorem c_L_addGroup (hl : l.stackTraces = false) (S : Mem) (ng nm nc t pa : Nat) (h : KI S ng nm nc t pa) (x : Int32) : CHI l yL_addGroup cL_addGroup 4 (some .int) { frames := 8, cells := 2, slots := 12, locals := 125 } D ad CNT ca SR (SH ad ca S) [.ref (ad 0 0), .int (x), .ref (ad 19 0)] [(0, 9, 12, 19), (0, 9, 15, 21)] (HI ad ca (agC x ng) S (uM (uM (uM S 1 1 ng x) 0 0 5 (nI (ng + 1))) 19 0 0 (nI ng))) := by
  refine CHI.of _ RL (by decide +kernel) rfl (Nat.le_of_ble_eq_true rfl) ?_
  intro p9 e9 s9 m9 a9 b9 me9 c9 A9 hB hr hT
  refine g_aload_n hB 2 dL_addGroup_0 rfl rfl ?_
  refine g_iconst hB (nI 0) dL_addGroup_1 rfl ?_
  refine g_aload_n hB 0 dL_addGroup_2 rfl rfl ?_
  refine g_iload_n hB 1 dL_addGroup_3 rfl rfl ?_
  refine g_callCVI hB hT (c_X5_addGroup hl _ ng nm nc t pa h _) k_L_31 rfl yk_X5_addGroup ⟨Nat.le_of_ble_eq_true rfl, Nat.le_of_ble_eq_true rfl⟩ ⟨(by decide), _, _, _, rfl, rfl, rfl⟩ rfl (Nat.le_of_ble_eq_true rfl) ⟨Nat.le_of_ble_eq_true rfl, Nat.le_of_ble_eq_true rfl⟩ dL_addGroup_4 (fun X hX => ?_) ?_
  · rcases pxc2 hX with ⟨e, rfl⟩ | ⟨e, rfl⟩
    · refine ⟨[], (0, 9, 12, 19), [(0, 9, 15, 21)], ca0 rfl (by decide) (by decide) (by decide) tw_cl_L_19 (by decide), fun q => ?_⟩
      refine g_astore_n hB 3 dL_addGroup_12 rfl (by decide) ?_
      refine g_iconst hB (nI 1) dL_addGroup_13 rfl ?_
      exact g_iret hB hr rfl (Nat.le_of_ble_eq_true rfl) (Nat.le_of_ble_eq_true rfl) (⟨by rw [e], by rw [e]; rfl⟩) dL_addGroup_14
    · refine ⟨[(0, 9, 12, 19)], (0, 9, 15, 21), [], ca1 rfl (by decide) (by decide) (by decide) tw_cl_L_21 (by decide) (by decide) tw_cl_L_19 (by decide), fun q => ?_⟩
      refine g_astore_n hB 3 dL_addGroup_15 rfl (by decide) ?_
      refine g_iconst hB (nI 2) dL_addGroup_16 rfl ?_
      exact g_iret hB hr rfl (Nat.le_of_ble_eq_true rfl) (Nat.le_of_ble_eq_true rfl) (⟨by rw [e], by rw [e]; rfl⟩) dL_addGroup_17
  rintro _ _ ⟨e, rfl, rfl⟩
  refine g_i2l hB dL_addGroup_7 ?_
  refine s_last hB 0 _ (rfl) dL_addGroup_8 (by decide) ?_
  refine g_goto hB 18 dL_addGroup_9 (by decide) ?_
  refine g_iconst hB (nI 0) dL_addGroup_18 rfl ?_
  exact g_iret hB hr rfl (Nat.le_of_ble_eq_true rfl) (Nat.le_of_ble_eq_true rfl) (⟨by rw [e], by rw [e]; rfl⟩) dL_addGroup_19
theorem c_L_addMachine (hl : l.stackTraces = false) (S : Mem) (ng nm nc t pa : Nat) (h : KI S ng nm nc t pa) (x : Int32) : CHI l yL_addMachine cL_addMachine 4 (some .int) { frames := 8, cells := 2, slots := 12, locals := 132 } D ad CNT ca SR (SH ad ca S) [.ref (ad 0 0), .int (x), .ref (ad 19 0)] [(0, 9, 12, 19), (0, 9, 15, 21)] (HI ad ca (amC x ng nm) S (uM (amM S nm (ix x)) 19 0 0 (nI nm))) := by
  refine CHI.of _ RL (by decide +kernel) rfl (Nat.le_of_ble_eq_true rfl) ?_
  intro p9 e9 s9 m9 a9 b9 me9 c9 A9 hB hr hT
  refine g_aload_n hB 2 dL_addMachine_0 rfl rfl ?_
  refine g_iconst hB (nI 0) dL_addMachine_1 rfl ?_
  refine g_aload_n hB 0 dL_addMachine_2 rfl rfl ?_
  refine g_iload_n hB 1 dL_addMachine_3 rfl rfl ?_
  refine g_callCVI hB hT (c_X5_addMachine hl _ ng nm nc t pa h _) k_L_34 rfl yk_X5_addMachine ⟨Nat.le_of_ble_eq_true rfl, Nat.le_of_ble_eq_true rfl⟩ ⟨(by decide), _, _, _, rfl, rfl, rfl⟩ rfl (Nat.le_of_ble_eq_true rfl) ⟨Nat.le_of_ble_eq_true rfl, Nat.le_of_ble_eq_true rfl⟩ dL_addMachine_4 (fun X hX => ?_) ?_
  · rcases pxc2 hX with ⟨e, rfl⟩ | ⟨e, rfl⟩
    · refine ⟨[], (0, 9, 12, 19), [(0, 9, 15, 21)], ca0 rfl (by decide) (by decide) (by decide) tw_cl_L_19 (by decide), fun q => ?_⟩
      refine g_astore_n hB 3 dL_addMachine_12 rfl (by decide) ?_
      refine g_iconst hB (nI 1) dL_addMachine_13 rfl ?_
      exact g_iret hB hr rfl (Nat.le_of_ble_eq_true rfl) (Nat.le_of_ble_eq_true rfl) (⟨by rw [e], by rw [e]; rfl⟩) dL_addMachine_14
    · refine ⟨[(0, 9, 12, 19)], (0, 9, 15, 21), [], ca1 rfl (by decide) (by decide) (by decide) tw_cl_L_21 (by decide) (by decide) tw_cl_L_19 (by decide), fun q => ?_⟩
      refine g_astore_n hB 3 dL_addMachine_15 rfl (by decide) ?_
      refine g_iconst hB (nI 2) dL_addMachine_16 rfl ?_
      exact g_iret hB hr rfl (Nat.le_of_ble_eq_true rfl) (Nat.le_of_ble_eq_true rfl) (⟨by rw [e], by rw [e]; rfl⟩) dL_addMachine_17
  rintro _ _ ⟨e, rfl, rfl⟩
  refine g_i2l hB dL_addMachine_7 ?_
  refine s_last hB 0 _ (rfl) dL_addMachine_8 (by decide) ?_
  refine g_goto hB 18 dL_addMachine_9 (by decide) ?_
  refine g_iconst hB (nI 0) dL_addMachine_18 rfl ?_
  exact g_iret hB hr rfl (Nat.le_of_ble_eq_true rfl) (Nat.le_of_ble_eq_true rfl) (⟨by rw [e], by rw [e]; rfl⟩) dL_addMachine_19
theorem c_L_moveMachine (hl : l.stackTraces = false) (S : Mem) (ng nm nc t pa : Nat) (h : KI S ng nm nc t pa) (x : Int32) (y : Int32) : CHI l yL_moveMachine cL_moveMachine 5 (some .int) { frames := 8, cells := 3, slots := 18, locals := 134 } D ad CNT ca SR (SH ad ca S) [.ref (ad 0 0), .int (x), .int (y), .ref (ad 19 0)] [(0, 10, 13, 19), (0, 10, 17, 21)] (HI ad ca (mmC S x y ng nm) S (uM (egM S (ix x) (10 + ix x) (ix y)) 19 0 0 (S 6 (ix x) 1))) := by
  refine CHI.of _ RL (by decide +kernel) rfl (Nat.le_of_ble_eq_true rfl) ?_
  intro p9 e9 s9 m9 a9 b9 me9 c9 A9 hB hr hT
  refine g_aload_n hB 3 dL_moveMachine_0 rfl rfl ?_
  refine g_iconst hB (nI 0) dL_moveMachine_1 rfl ?_
  refine g_aload_n hB 0 dL_moveMachine_2 rfl rfl ?_
  refine g_iload_n hB 1 dL_moveMachine_3 rfl rfl ?_
  refine g_iload_n hB 2 dL_moveMachine_4 rfl rfl ?_
  refine g_callCVI hB hT (c_X5_moveMachine hl _ ng nm nc t pa h _ _) k_L_37 rfl yk_X5_moveMachine ⟨Nat.le_of_ble_eq_true rfl, Nat.le_of_ble_eq_true rfl⟩ ⟨(by decide), _, _, _, rfl, rfl, rfl⟩ rfl (Nat.le_of_ble_eq_true rfl) ⟨Nat.le_of_ble_eq_true rfl, Nat.le_of_ble_eq_true rfl⟩ dL_moveMachine_5 (fun X hX => ?_) ?_
  · rcases pxc2 hX with ⟨e, rfl⟩ | ⟨e, rfl⟩
    · refine ⟨[], (0, 10, 13, 19), [(0, 10, 17, 21)], ca0 rfl (by decide) (by decide) (by decide) tw_cl_L_19 (by decide), fun q => ?_⟩
      refine g_astore hB 4 dL_moveMachine_13 (by decide) ?_
      refine g_iconst hB (nI 1) dL_moveMachine_15 rfl ?_
      exact g_iret hB hr rfl (Nat.le_of_ble_eq_true rfl) (Nat.le_of_ble_eq_true rfl) (⟨by rw [e], by rw [e]; rfl⟩) dL_moveMachine_16
    · refine ⟨[(0, 10, 13, 19)], (0, 10, 17, 21), [], ca1 rfl (by decide) (by decide) (by decide) tw_cl_L_21 (by decide) (by decide) tw_cl_L_19 (by decide), fun q => ?_⟩
      refine g_astore hB 4 dL_moveMachine_17 (by decide) ?_
      refine g_iconst hB (nI 2) dL_moveMachine_19 rfl ?_
      exact g_iret hB hr rfl (Nat.le_of_ble_eq_true rfl) (Nat.le_of_ble_eq_true rfl) (⟨by rw [e], by rw [e]; rfl⟩) dL_moveMachine_20
  rintro _ _ ⟨e, rfl, rfl⟩
  refine g_i2l hB dL_moveMachine_8 ?_
  refine s_last hB 0 _ (rfl) dL_moveMachine_9 (by decide) ?_
  refine g_goto hB 21 dL_moveMachine_10 (by decide) ?_
  refine g_iconst hB (nI 0) dL_moveMachine_21 rfl ?_
  exact g_iret hB hr rfl (Nat.le_of_ble_eq_true rfl) (Nat.le_of_ble_eq_true rfl) (⟨by rw [e], by rw [e]; rfl⟩) dL_moveMachine_22
theorem c_L_work (hl : l.stackTraces = false) (S : Mem) (ng nm nc t pa : Nat) (h : KI S ng nm nc t pa) (x : Int32) (y : Int32) : CHI l yL_work cL_work 5 (some .int) { frames := 8, cells := 2, slots := 12, locals := 126 } D ad CNT ca SR (SH ad ca S) [.ref (ad 0 0), .int (x), .int (y), .ref (ad 19 0)] [(0, 10, 13, 19), (0, 10, 17, 13), (0, 10, 21, 21)] (HI ad ca (woC S x y nm nc) S (uM (uM S 6 (ix x) 2 (S 0 0 0 + y)) 19 0 0 (S 0 0 0 + y))) := by
  refine CHI.of _ RL (by decide +kernel) rfl (Nat.le_of_ble_eq_true rfl) ?_
  intro p9 e9 s9 m9 a9 b9 me9 c9 A9 hB hr hT
  refine g_aload_n hB 3 dL_work_0 rfl rfl ?_
  refine g_iconst hB (nI 0) dL_work_1 rfl ?_
  refine g_aload_n hB 0 dL_work_2 rfl rfl ?_
  refine g_iload_n hB 1 dL_work_3 rfl rfl ?_
  refine g_iload_n hB 2 dL_work_4 rfl rfl ?_
  refine g_callCVI hB hT (c_X5_work hl _ ng nm nc t pa h _ _) k_L_40 rfl yk_X5_work ⟨Nat.le_of_ble_eq_true rfl, Nat.le_of_ble_eq_true rfl⟩ ⟨(by decide), _, _, _, rfl, rfl, rfl⟩ rfl (Nat.le_of_ble_eq_true rfl) ⟨Nat.le_of_ble_eq_true rfl, Nat.le_of_ble_eq_true rfl⟩ dL_work_5 (fun X hX => ?_) ?_
  · rcases pxc3 hX with ⟨e, rfl⟩ | ⟨e, rfl⟩ | ⟨e, rfl⟩
    · refine ⟨[], (0, 10, 13, 19), [(0, 10, 17, 13), (0, 10, 21, 21)], ca0 rfl (by decide) (by decide) (by decide) tw_cl_L_19 (by decide), fun q => ?_⟩
      refine g_astore hB 4 dL_work_13 (by decide) ?_
      refine g_iconst hB (nI 1) dL_work_15 rfl ?_
      exact g_iret hB hr rfl (Nat.le_of_ble_eq_true rfl) (Nat.le_of_ble_eq_true rfl) (⟨by rw [e], by rw [e]; rfl⟩) dL_work_16
    · refine ⟨[(0, 10, 13, 19)], (0, 10, 17, 13), [(0, 10, 21, 21)], ca1 rfl (by decide) (by decide) (by decide) tw_cl_L_13 (by decide) (by decide) tw_cl_L_19 (by decide), fun q => ?_⟩
      refine g_astore hB 4 dL_work_17 (by decide) ?_
      refine g_iconst hB (nI 2) dL_work_19 rfl ?_
      exact g_iret hB hr rfl (Nat.le_of_ble_eq_true rfl) (Nat.le_of_ble_eq_true rfl) (⟨by rw [e], by rw [e]; rfl⟩) dL_work_20
    · refine ⟨[(0, 10, 13, 19), (0, 10, 17, 13)], (0, 10, 21, 21), [], ca2 rfl (by decide) (by decide) (by decide) tw_cl_L_21 (by decide) (by decide) tw_cl_L_19 (by decide) (by decide) tw_cl_L_13 (by decide), fun q => ?_⟩
      refine g_astore hB 4 dL_work_21 (by decide) ?_
      refine g_iconst hB (nI 3) dL_work_23 rfl ?_
      exact g_iret hB hr rfl (Nat.le_of_ble_eq_true rfl) (Nat.le_of_ble_eq_true rfl) (⟨by rw [e], by rw [e]; rfl⟩) dL_work_24
  rintro _ _ ⟨e, rfl, rfl⟩
  refine g_i2l hB dL_work_8 ?_
  refine s_last hB 0 _ (rfl) dL_work_9 (by decide) ?_
  refine g_goto hB 25 dL_work_10 (by decide) ?_
  refine g_iconst hB (nI 0) dL_work_25 rfl ?_
  exact g_iret hB hr rfl (Nat.le_of_ble_eq_true rfl) (Nat.le_of_ble_eq_true rfl) (⟨by rw [e], by rw [e]; rfl⟩) dL_work_26
theorem c_L_setPace (hl : l.stackTraces = false) (S : Mem) (x : Int32) : CHI l yL_setPace cL_setPace 4 (some .int) { frames := 7, cells := 1, slots := 6, locals := 104 } D ad CNT ca SR (SH ad ca S) [.ref (ad 0 0), .int (x), .ref (ad 19 0)] [(0, 9, 12, 13)] (HI ad ca (spC x) S (uM (uM S 0 0 1 x) 19 0 0 (S 0 0 1))) := by
  refine CHI.of _ RL (by decide +kernel) rfl (Nat.le_of_ble_eq_true rfl) ?_
  intro p9 e9 s9 m9 a9 b9 me9 c9 A9 hB hr hT
  refine g_aload_n hB 2 dL_setPace_0 rfl rfl ?_
  refine g_iconst hB (nI 0) dL_setPace_1 rfl ?_
  refine g_aload_n hB 0 dL_setPace_2 rfl rfl ?_
  refine g_iload_n hB 1 dL_setPace_3 rfl rfl ?_
  refine g_callCVI hB hT (c_X5_setPace hl _ _) k_L_43 rfl yk_X5_setPace ⟨Nat.le_of_ble_eq_true rfl, Nat.le_of_ble_eq_true rfl⟩ ⟨(by decide), _, _, _, rfl, rfl, rfl⟩ rfl (Nat.le_of_ble_eq_true rfl) ⟨Nat.le_of_ble_eq_true rfl, Nat.le_of_ble_eq_true rfl⟩ dL_setPace_4 (fun X hX => ?_) ?_
  · rcases pxc1 hX with ⟨e, rfl⟩
    · refine ⟨[], (0, 9, 12, 13), [], ca0 rfl (by decide) (by decide) (by decide) tw_cl_L_13 (by decide), fun q => ?_⟩
      refine g_astore_n hB 3 dL_setPace_12 rfl (by decide) ?_
      refine g_iconst hB (nI 1) dL_setPace_13 rfl ?_
      exact g_iret hB hr rfl (Nat.le_of_ble_eq_true rfl) (Nat.le_of_ble_eq_true rfl) (⟨by rw [e], by rw [e]; rfl⟩) dL_setPace_14
  rintro _ _ ⟨e, rfl, rfl⟩
  refine g_i2l hB dL_setPace_7 ?_
  refine s_last hB 0 _ (rfl) dL_setPace_8 (by decide) ?_
  refine g_goto hB 15 dL_setPace_9 (by decide) ?_
  refine g_iconst hB (nI 0) dL_setPace_15 rfl ?_
  exact g_iret hB hr rfl (Nat.le_of_ble_eq_true rfl) (Nat.le_of_ble_eq_true rfl) (⟨by rw [e], by rw [e]; rfl⟩) dL_setPace_16
theorem c_L_isBusy (hl : l.stackTraces = false) (S : Mem) (ng nm nc t pa : Nat) (h : KI S ng nm nc t pa) (x : Int32) : CHI l yL_isBusy cL_isBusy 4 (some .int) { frames := 8, cells := 1, slots := 6, locals := 124 } D ad CNT ca SR (SH ad ca S) [.ref (ad 0 0), .int (x), .ref (ad 19 0)] [(0, 16, 19, 19)] (HI ad ca (rqC x nm) S (uM (S) 19 0 0 (bI (decide (S 0 0 0 < S 6 (ix x) 2))))) := by
  refine CHI.of _ RL (by decide +kernel) rfl (Nat.le_of_ble_eq_true rfl) ?_
  intro p9 e9 s9 m9 a9 b9 me9 c9 A9 hB hr hT
  refine g_aload_n hB 2 dL_isBusy_0 rfl rfl ?_
  refine g_iconst hB (nI 0) dL_isBusy_1 rfl ?_
  refine g_aload_n hB 0 dL_isBusy_2 rfl rfl ?_
  refine g_iload_n hB 1 dL_isBusy_3 rfl rfl ?_
  refine g_callCVI hB hT (c_X5_isBusy hl _ ng nm nc t pa h _) k_L_46 rfl yk_X5_isBusy ⟨Nat.le_of_ble_eq_true rfl, Nat.le_of_ble_eq_true rfl⟩ ⟨(by decide), _, _, _, rfl, rfl, rfl⟩ rfl (Nat.le_of_ble_eq_true rfl) ⟨Nat.le_of_ble_eq_true rfl, Nat.le_of_ble_eq_true rfl⟩ dL_isBusy_4 (fun X hX => ?_) ?_
  · rcases pxc1 hX with ⟨e, rfl⟩
    · refine ⟨[], (0, 16, 19, 19), [], ca0 rfl (by decide) (by decide) (by decide) tw_cl_L_19 (by decide), fun q => ?_⟩
      refine g_astore_n hB 3 dL_isBusy_19 rfl (by decide) ?_
      refine g_iconst hB (nI 1) dL_isBusy_20 rfl ?_
      exact g_iret hB hr rfl (Nat.le_of_ble_eq_true rfl) (Nat.le_of_ble_eq_true rfl) (⟨by rw [e], by rw [e]; rfl⟩) dL_isBusy_21
  rintro _ _ ⟨e, rfl, rfl⟩
  refine b_if_eq hB (decide (S 0 0 0 < S 6 (ix x) 2)) 14 dL_isBusy_7 (by decide) (fun c_7 => ?_) (fun c_7 => ?_)
  · refine g_lconst2 hB (0) dL_isBusy_14 rfl ?_
    refine s_last hB 0 (nI 0) (by decide) dL_isBusy_15 (by decide) ?_
    refine g_goto hB 22 dL_isBusy_16 (by decide) ?_
    refine g_iconst hB (nI 0) dL_isBusy_22 rfl ?_
    exact g_iret hB hr rfl (Nat.le_of_ble_eq_true rfl) (Nat.le_of_ble_eq_true rfl) (⟨by rw [e], by rw [e, c_7]; rfl⟩) dL_isBusy_23
  · refine g_lconst2 hB (1) dL_isBusy_10 rfl ?_
    refine g_goto hB 15 dL_isBusy_11 (by decide) ?_
    refine s_last hB 0 (nI 1) (by decide) dL_isBusy_15 (by decide) ?_
    refine g_goto hB 22 dL_isBusy_16 (by decide) ?_
    refine g_iconst hB (nI 0) dL_isBusy_22 rfl ?_
    exact g_iret hB hr rfl (Nat.le_of_ble_eq_true rfl) (Nat.le_of_ble_eq_true rfl) (⟨by rw [e], by rw [e, c_7]; rfl⟩) dL_isBusy_23
theorem c_L_isStopped (hl : l.stackTraces = false) (S : Mem) (ng nm nc t pa : Nat) (h : KI S ng nm nc t pa) (x : Int32) : CHI l yL_isStopped cL_isStopped 4 (some .int) { frames := 8, cells := 1, slots := 6, locals := 124 } D ad CNT ca SR (SH ad ca S) [.ref (ad 0 0), .int (x), .ref (ad 19 0)] [(0, 16, 19, 19)] (HI ad ca (rqC x nm) S (uM (S) 19 0 0 (bI ((cNear S nc (ix x) (clay S (ix x))).isSome)))) := by
  refine CHI.of _ RL (by decide +kernel) rfl (Nat.le_of_ble_eq_true rfl) ?_
  intro p9 e9 s9 m9 a9 b9 me9 c9 A9 hB hr hT
  refine g_aload_n hB 2 dL_isStopped_0 rfl rfl ?_
  refine g_iconst hB (nI 0) dL_isStopped_1 rfl ?_
  refine g_aload_n hB 0 dL_isStopped_2 rfl rfl ?_
  refine g_iload_n hB 1 dL_isStopped_3 rfl rfl ?_
  refine g_callCVI hB hT (c_X5_isStopped hl _ ng nm nc t pa h _) k_L_50 rfl yk_X5_isStopped ⟨Nat.le_of_ble_eq_true rfl, Nat.le_of_ble_eq_true rfl⟩ ⟨(by decide), _, _, _, rfl, rfl, rfl⟩ rfl (Nat.le_of_ble_eq_true rfl) ⟨Nat.le_of_ble_eq_true rfl, Nat.le_of_ble_eq_true rfl⟩ dL_isStopped_4 (fun X hX => ?_) ?_
  · rcases pxc1 hX with ⟨e, rfl⟩
    · refine ⟨[], (0, 16, 19, 19), [], ca0 rfl (by decide) (by decide) (by decide) tw_cl_L_19 (by decide), fun q => ?_⟩
      refine g_astore_n hB 3 dL_isStopped_19 rfl (by decide) ?_
      refine g_iconst hB (nI 1) dL_isStopped_20 rfl ?_
      exact g_iret hB hr rfl (Nat.le_of_ble_eq_true rfl) (Nat.le_of_ble_eq_true rfl) (⟨by rw [e], by rw [e]; rfl⟩) dL_isStopped_21
  rintro _ _ ⟨e, rfl, rfl⟩
  refine b_if_eq hB ((cNear S nc (ix x) (clay S (ix x))).isSome) 14 dL_isStopped_7 (by decide) (fun c_7 => ?_) (fun c_7 => ?_)
  · refine g_lconst2 hB (0) dL_isStopped_14 rfl ?_
    refine s_last hB 0 (nI 0) (by decide) dL_isStopped_15 (by decide) ?_
    refine g_goto hB 22 dL_isStopped_16 (by decide) ?_
    refine g_iconst hB (nI 0) dL_isStopped_22 rfl ?_
    exact g_iret hB hr rfl (Nat.le_of_ble_eq_true rfl) (Nat.le_of_ble_eq_true rfl) (⟨by rw [e], by rw [e, c_7]; rfl⟩) dL_isStopped_23
  · refine g_lconst2 hB (1) dL_isStopped_10 rfl ?_
    refine g_goto hB 15 dL_isStopped_11 (by decide) ?_
    refine s_last hB 0 (nI 1) (by decide) dL_isStopped_15 (by decide) ?_
    refine g_goto hB 22 dL_isStopped_16 (by decide) ?_
    refine g_iconst hB (nI 0) dL_isStopped_22 rfl ?_
    exact g_iret hB hr rfl (Nat.le_of_ble_eq_true rfl) (Nat.le_of_ble_eq_true rfl) (⟨by rw [e], by rw [e, c_7]; rfl⟩) dL_isStopped_23
theorem c_L_propose (hl : l.stackTraces = false) (S : Mem) (ng nm nc t pa : Nat) (h : KI S ng nm nc t pa) (x : Int32) (y : Int32) (z : Int32) (w : Int32) : CHI l yL_propose cL_propose 7 (some .int) { frames := 8, cells := 4, slots := 24, locals := 128 } D ad CNT ca SR (SH ad ca S) [.ref (ad 0 0), .int (x), .int (y), .int (z), .int (w), .ref (ad 19 0)] [(0, 14, 17, 19), (0, 14, 21, 13), (0, 14, 25, 21)] (HI ad ca (prC S x y z w ng nm nc) S (uM (prM S nc x (nI (ix (slF y ng nm) * 6 + ix z)) w) 19 0 0 (nI nc))) := by
  refine CHI.of _ RL (by decide +kernel) rfl (Nat.le_of_ble_eq_true rfl) ?_
  intro p9 e9 s9 m9 a9 b9 me9 c9 A9 hB hr hT
  refine g_aload hB 5 dL_propose_0 rfl ?_
  refine g_iconst hB (nI 0) dL_propose_2 rfl ?_
  refine g_aload_n hB 0 dL_propose_3 rfl rfl ?_
  refine g_iload_n hB 1 dL_propose_4 rfl rfl ?_
  refine g_iload_n hB 2 dL_propose_5 rfl rfl ?_
  refine g_iload_n hB 3 dL_propose_6 rfl rfl ?_
  refine g_iload hB 4 dL_propose_7 rfl ?_
  refine g_callCVI hB hT (c_X5_propose hl _ ng nm nc t pa h _ _ _ _) k_L_53 rfl yk_X5_propose ⟨Nat.le_of_ble_eq_true rfl, Nat.le_of_ble_eq_true rfl⟩ ⟨(by decide), _, _, _, rfl, rfl, rfl⟩ rfl (Nat.le_of_ble_eq_true rfl) ⟨Nat.le_of_ble_eq_true rfl, Nat.le_of_ble_eq_true rfl⟩ dL_propose_9 (fun X hX => ?_) ?_
  · rcases pxc3 hX with ⟨e, rfl⟩ | ⟨e, rfl⟩ | ⟨e, rfl⟩
    · refine ⟨[], (0, 14, 17, 19), [(0, 14, 21, 13), (0, 14, 25, 21)], ca0 rfl (by decide) (by decide) (by decide) tw_cl_L_19 (by decide), fun q => ?_⟩
      refine g_astore hB 6 dL_propose_17 (by decide) ?_
      refine g_iconst hB (nI 1) dL_propose_19 rfl ?_
      exact g_iret hB hr rfl (Nat.le_of_ble_eq_true rfl) (Nat.le_of_ble_eq_true rfl) (⟨by rw [e], by rw [e]; rfl⟩) dL_propose_20
    · refine ⟨[(0, 14, 17, 19)], (0, 14, 21, 13), [(0, 14, 25, 21)], ca1 rfl (by decide) (by decide) (by decide) tw_cl_L_13 (by decide) (by decide) tw_cl_L_19 (by decide), fun q => ?_⟩
      refine g_astore hB 6 dL_propose_21 (by decide) ?_
      refine g_iconst hB (nI 2) dL_propose_23 rfl ?_
      exact g_iret hB hr rfl (Nat.le_of_ble_eq_true rfl) (Nat.le_of_ble_eq_true rfl) (⟨by rw [e], by rw [e]; rfl⟩) dL_propose_24
    · refine ⟨[(0, 14, 17, 19), (0, 14, 21, 13)], (0, 14, 25, 21), [], ca2 rfl (by decide) (by decide) (by decide) tw_cl_L_21 (by decide) (by decide) tw_cl_L_19 (by decide) (by decide) tw_cl_L_13 (by decide), fun q => ?_⟩
      refine g_astore hB 6 dL_propose_25 (by decide) ?_
      refine g_iconst hB (nI 3) dL_propose_27 rfl ?_
      exact g_iret hB hr rfl (Nat.le_of_ble_eq_true rfl) (Nat.le_of_ble_eq_true rfl) (⟨by rw [e], by rw [e]; rfl⟩) dL_propose_28
  rintro _ _ ⟨e, rfl, rfl⟩
  refine g_i2l hB dL_propose_12 ?_
  refine s_last hB 0 _ (rfl) dL_propose_13 (by decide) ?_
  refine g_goto hB 29 dL_propose_14 (by decide) ?_
  refine g_iconst hB (nI 0) dL_propose_29 rfl ?_
  exact g_iret hB hr rfl (Nat.le_of_ble_eq_true rfl) (Nat.le_of_ble_eq_true rfl) (⟨by rw [e], by rw [e]; rfl⟩) dL_propose_30
theorem c_L_approve (hl : l.stackTraces = false) (S : Mem) (ng nm nc t pa : Nat) (h : KI S ng nm nc t pa) (x : Int32) (y : Int32) : CHI l yL_approve cL_approve 5 (some .int) { frames := 8, cells := 3, slots := 18, locals := 130 } D ad CNT ca SR (SH ad ca S) [.ref (ad 0 0), .int (x), .int (y), .ref (ad 19 0)] [(0, 10, 13, 19), (0, 10, 17, 21)] (HI ad ca (apC S x y nc t) S (uM (apM S (ix x) (ix y) nc) 19 0 0 (apM S (ix x) (ix y) nc 9 (ix y) 4))) := by
  refine CHI.of _ RL (by decide +kernel) rfl (Nat.le_of_ble_eq_true rfl) ?_
  intro p9 e9 s9 m9 a9 b9 me9 c9 A9 hB hr hT
  refine g_aload_n hB 3 dL_approve_0 rfl rfl ?_
  refine g_iconst hB (nI 0) dL_approve_1 rfl ?_
  refine g_aload_n hB 0 dL_approve_2 rfl rfl ?_
  refine g_iload_n hB 1 dL_approve_3 rfl rfl ?_
  refine g_iload_n hB 2 dL_approve_4 rfl rfl ?_
  refine g_callCVI hB hT (c_X5_approve hl _ ng nm nc t pa h _ _) k_L_57 rfl yk_X5_approve ⟨Nat.le_of_ble_eq_true rfl, Nat.le_of_ble_eq_true rfl⟩ ⟨(by decide), _, _, _, rfl, rfl, rfl⟩ rfl (Nat.le_of_ble_eq_true rfl) ⟨Nat.le_of_ble_eq_true rfl, Nat.le_of_ble_eq_true rfl⟩ dL_approve_5 (fun X hX => ?_) ?_
  · rcases pxc2 hX with ⟨e, rfl⟩ | ⟨e, rfl⟩
    · refine ⟨[], (0, 10, 13, 19), [(0, 10, 17, 21)], ca0 rfl (by decide) (by decide) (by decide) tw_cl_L_19 (by decide), fun q => ?_⟩
      refine g_astore hB 4 dL_approve_13 (by decide) ?_
      refine g_iconst hB (nI 1) dL_approve_15 rfl ?_
      exact g_iret hB hr rfl (Nat.le_of_ble_eq_true rfl) (Nat.le_of_ble_eq_true rfl) (⟨by rw [e], by rw [e]; rfl⟩) dL_approve_16
    · refine ⟨[(0, 10, 13, 19)], (0, 10, 17, 21), [], ca1 rfl (by decide) (by decide) (by decide) tw_cl_L_21 (by decide) (by decide) tw_cl_L_19 (by decide), fun q => ?_⟩
      refine g_astore hB 4 dL_approve_17 (by decide) ?_
      refine g_iconst hB (nI 2) dL_approve_19 rfl ?_
      exact g_iret hB hr rfl (Nat.le_of_ble_eq_true rfl) (Nat.le_of_ble_eq_true rfl) (⟨by rw [e], by rw [e]; rfl⟩) dL_approve_20
  rintro _ _ ⟨e, rfl, rfl⟩
  refine g_i2l hB dL_approve_8 ?_
  refine s_last hB 0 _ (rfl) dL_approve_9 (by decide) ?_
  refine g_goto hB 21 dL_approve_10 (by decide) ?_
  refine g_iconst hB (nI 0) dL_approve_21 rfl ?_
  exact g_iret hB hr rfl (Nat.le_of_ble_eq_true rfl) (Nat.le_of_ble_eq_true rfl) (⟨by rw [e], by rw [e]; rfl⟩) dL_approve_22
theorem c_L_withdraw (hl : l.stackTraces = false) (S : Mem) (ng nm nc t pa : Nat) (h : KI S ng nm nc t pa) (x : Int32) : CHI l yL_withdraw cL_withdraw 3 (some .int) { frames := 8, cells := 2, slots := 12, locals := 125 } D ad CNT ca SR (SH ad ca S) [.ref (ad 0 0), .int (x)] [(0, 5, 8, 19), (0, 5, 11, 21)] (HI ad ca (wdC S x nc) S (uM S 9 (ix x) 4 (nI 3))) := by
  refine CHI.of _ RL (by decide +kernel) rfl (Nat.le_of_ble_eq_true rfl) ?_
  intro p9 e9 s9 m9 a9 b9 me9 c9 A9 hB hr hT
  refine g_aload_n hB 0 dL_withdraw_0 rfl rfl ?_
  refine g_iload_n hB 1 dL_withdraw_1 rfl rfl ?_
  refine g_callCVV hB hT (c_X5_withdraw hl _ ng nm nc t pa h _) k_L_60 rfl yk_X5_withdraw ⟨Nat.le_of_ble_eq_true rfl, Nat.le_of_ble_eq_true rfl⟩ ⟨(by decide), _, _, _, rfl, rfl, rfl⟩ rfl (Nat.le_of_ble_eq_true rfl) ⟨Nat.le_of_ble_eq_true rfl, Nat.le_of_ble_eq_true rfl⟩ dL_withdraw_2 (fun X hX => ?_) ?_
  · rcases pxc2 hX with ⟨e, rfl⟩ | ⟨e, rfl⟩
    · refine ⟨[], (0, 5, 8, 19), [(0, 5, 11, 21)], ca0 rfl (by decide) (by decide) (by decide) tw_cl_L_19 (by decide), fun q => ?_⟩
      refine g_astore_n hB 2 dL_withdraw_8 rfl (by decide) ?_
      refine g_iconst hB (nI 1) dL_withdraw_9 rfl ?_
      exact g_iret hB hr rfl (Nat.le_of_ble_eq_true rfl) (Nat.le_of_ble_eq_true rfl) (⟨by rw [e], by rw [e]; rfl⟩) dL_withdraw_10
    · refine ⟨[(0, 5, 8, 19)], (0, 5, 11, 21), [], ca1 rfl (by decide) (by decide) (by decide) tw_cl_L_21 (by decide) (by decide) tw_cl_L_19 (by decide), fun q => ?_⟩
      refine g_astore_n hB 2 dL_withdraw_11 rfl (by decide) ?_
      refine g_iconst hB (nI 2) dL_withdraw_12 rfl ?_
      exact g_iret hB hr rfl (Nat.le_of_ble_eq_true rfl) (Nat.le_of_ble_eq_true rfl) (⟨by rw [e], by rw [e]; rfl⟩) dL_withdraw_13
  rintro _ ⟨e, rfl⟩
  refine g_goto hB 14 dL_withdraw_5 (by decide) ?_
  refine g_iconst hB (nI 0) dL_withdraw_14 rfl ?_
  exact g_iret hB hr rfl (Nat.le_of_ble_eq_true rfl) (Nat.le_of_ble_eq_true rfl) (⟨by rw [e], by rw [e]; rfl⟩) dL_withdraw_15
theorem c_L_exclude (hl : l.stackTraces = false) (S : Mem) (x : Int32) (y : Int32) (b : Bool) : CHI l yL_exclude cL_exclude 6 (some .int) { frames := 8, cells := 3, slots := 18, locals := 126 } D ad CNT ca SR (SH ad ca S) [.ref (ad 0 0), .int (x), .int (y), .int (bI (b)), .ref (ad 19 0)] [(0, 19, 22, 19), (0, 19, 26, 13)] (HI ad ca (exC x y) S (uM (exM S (ix x) (ix y) b) 19 0 0 (bI (cntI (S 1 2 (ix x)) y)))) := by
  refine CHI.of _ RL (by decide +kernel) rfl (Nat.le_of_ble_eq_true rfl) ?_
  intro p9 e9 s9 m9 a9 b9 me9 c9 A9 hB hr hT
  refine g_aload hB 4 dL_exclude_0 rfl ?_
  refine g_iconst hB (nI 0) dL_exclude_2 rfl ?_
  refine g_aload_n hB 0 dL_exclude_3 rfl rfl ?_
  refine g_iload_n hB 1 dL_exclude_4 rfl rfl ?_
  refine g_iload_n hB 2 dL_exclude_5 rfl rfl ?_
  refine g_iload_n hB 3 dL_exclude_6 rfl rfl ?_
  refine g_callCVI hB hT (c_X5_exclude hl _ _ _ _) k_L_63 rfl yk_X5_exclude ⟨Nat.le_of_ble_eq_true rfl, Nat.le_of_ble_eq_true rfl⟩ ⟨(by decide), _, _, _, rfl, rfl, rfl⟩ rfl (Nat.le_of_ble_eq_true rfl) ⟨Nat.le_of_ble_eq_true rfl, Nat.le_of_ble_eq_true rfl⟩ dL_exclude_7 (fun X hX => ?_) ?_
  · rcases pxc2 hX with ⟨e, rfl⟩ | ⟨e, rfl⟩
    · refine ⟨[], (0, 19, 22, 19), [(0, 19, 26, 13)], ca0 rfl (by decide) (by decide) (by decide) tw_cl_L_19 (by decide), fun q => ?_⟩
      refine g_astore hB 5 dL_exclude_22 (by decide) ?_
      refine g_iconst hB (nI 1) dL_exclude_24 rfl ?_
      exact g_iret hB hr rfl (Nat.le_of_ble_eq_true rfl) (Nat.le_of_ble_eq_true rfl) (⟨by rw [e], by rw [e]; rfl⟩) dL_exclude_25
    · refine ⟨[(0, 19, 22, 19)], (0, 19, 26, 13), [], ca1 rfl (by decide) (by decide) (by decide) tw_cl_L_13 (by decide) (by decide) tw_cl_L_19 (by decide), fun q => ?_⟩
      refine g_astore hB 5 dL_exclude_26 (by decide) ?_
      refine g_iconst hB (nI 2) dL_exclude_28 rfl ?_
      exact g_iret hB hr rfl (Nat.le_of_ble_eq_true rfl) (Nat.le_of_ble_eq_true rfl) (⟨by rw [e], by rw [e]; rfl⟩) dL_exclude_29
  rintro _ _ ⟨e, rfl, rfl⟩
  refine b_if_eq hB (cntI (S 1 2 (ix x)) y) 17 dL_exclude_10 (by decide) (fun c_10 => ?_) (fun c_10 => ?_)
  · refine g_lconst2 hB (0) dL_exclude_17 rfl ?_
    refine s_last hB 0 (nI 0) (by decide) dL_exclude_18 (by decide) ?_
    refine g_goto hB 30 dL_exclude_19 (by decide) ?_
    refine g_iconst hB (nI 0) dL_exclude_30 rfl ?_
    exact g_iret hB hr rfl (Nat.le_of_ble_eq_true rfl) (Nat.le_of_ble_eq_true rfl) (⟨by rw [e], by rw [e, c_10]; rfl⟩) dL_exclude_31
  · refine g_lconst2 hB (1) dL_exclude_13 rfl ?_
    refine g_goto hB 18 dL_exclude_14 (by decide) ?_
    refine s_last hB 0 (nI 1) (by decide) dL_exclude_18 (by decide) ?_
    refine g_goto hB 30 dL_exclude_19 (by decide) ?_
    refine g_iconst hB (nI 0) dL_exclude_30 rfl ?_
    exact g_iret hB hr rfl (Nat.le_of_ble_eq_true rfl) (Nat.le_of_ble_eq_true rfl) (⟨by rw [e], by rw [e, c_10]; rfl⟩) dL_exclude_31
theorem c_L_state (hl : l.stackTraces = false) (S : Mem) (ng nm nc t pa : Nat) (h : KI S ng nm nc t pa) (x : Int32) : CHI l yL_state cL_state 4 (some .int) { frames := 8, cells := 1, slots := 6, locals := 124 } D ad CNT ca SR (SH ad ca S) [.ref (ad 0 0), .int (x), .ref (ad 19 0)] [(0, 9, 12, 19)] (HI ad ca (rqC x nc) S (uM (S) 19 0 0 (S 9 (ix x) 4))) := by
  refine CHI.of _ RL (by decide +kernel) rfl (Nat.le_of_ble_eq_true rfl) ?_
  intro p9 e9 s9 m9 a9 b9 me9 c9 A9 hB hr hT
  refine g_aload_n hB 2 dL_state_0 rfl rfl ?_
  refine g_iconst hB (nI 0) dL_state_1 rfl ?_
  refine g_aload_n hB 0 dL_state_2 rfl rfl ?_
  refine g_iload_n hB 1 dL_state_3 rfl rfl ?_
  refine g_callCVI hB hT (c_X5_state hl _ ng nm nc t pa h _) k_L_67 rfl yk_X5_state ⟨Nat.le_of_ble_eq_true rfl, Nat.le_of_ble_eq_true rfl⟩ ⟨(by decide), _, _, _, rfl, rfl, rfl⟩ rfl (Nat.le_of_ble_eq_true rfl) ⟨Nat.le_of_ble_eq_true rfl, Nat.le_of_ble_eq_true rfl⟩ dL_state_4 (fun X hX => ?_) ?_
  · rcases pxc1 hX with ⟨e, rfl⟩
    · refine ⟨[], (0, 9, 12, 19), [], ca0 rfl (by decide) (by decide) (by decide) tw_cl_L_19 (by decide), fun q => ?_⟩
      refine g_astore_n hB 3 dL_state_12 rfl (by decide) ?_
      refine g_iconst hB (nI 1) dL_state_13 rfl ?_
      exact g_iret hB hr rfl (Nat.le_of_ble_eq_true rfl) (Nat.le_of_ble_eq_true rfl) (⟨by rw [e], by rw [e]; rfl⟩) dL_state_14
  rintro _ _ ⟨e, rfl, rfl⟩
  refine g_i2l hB dL_state_7 ?_
  refine s_last hB 0 _ (rfl) dL_state_8 (by decide) ?_
  refine g_goto hB 15 dL_state_9 (by decide) ?_
  refine g_iconst hB (nI 0) dL_state_15 rfl ?_
  exact g_iret hB hr rfl (Nat.le_of_ble_eq_true rfl) (Nat.le_of_ble_eq_true rfl) (⟨by rw [e], by rw [e]; rfl⟩) dL_state_16
theorem c_L_rank (hl : l.stackTraces = false) (S : Mem) (ng nm nc t pa : Nat) (h : KI S ng nm nc t pa) (x : Int32) : CHI l yL_rank cL_rank 4 (some .int) { frames := 8, cells := 1, slots := 6, locals := 124 } D ad CNT ca SR (SH ad ca S) [.ref (ad 0 0), .int (x), .ref (ad 19 0)] [(0, 9, 12, 19)] (HI ad ca (rqC x nc) S (uM (S) 19 0 0 (S 14 0 (ix x)))) := by
  refine CHI.of _ RL (by decide +kernel) rfl (Nat.le_of_ble_eq_true rfl) ?_
  intro p9 e9 s9 m9 a9 b9 me9 c9 A9 hB hr hT
  refine g_aload_n hB 2 dL_rank_0 rfl rfl ?_
  refine g_iconst hB (nI 0) dL_rank_1 rfl ?_
  refine g_aload_n hB 0 dL_rank_2 rfl rfl ?_
  refine g_iload_n hB 1 dL_rank_3 rfl rfl ?_
  refine g_callCVI hB hT (c_X5_rank hl _ ng nm nc t pa h _) k_L_70 rfl yk_X5_rank ⟨Nat.le_of_ble_eq_true rfl, Nat.le_of_ble_eq_true rfl⟩ ⟨(by decide), _, _, _, rfl, rfl, rfl⟩ rfl (Nat.le_of_ble_eq_true rfl) ⟨Nat.le_of_ble_eq_true rfl, Nat.le_of_ble_eq_true rfl⟩ dL_rank_4 (fun X hX => ?_) ?_
  · rcases pxc1 hX with ⟨e, rfl⟩
    · refine ⟨[], (0, 9, 12, 19), [], ca0 rfl (by decide) (by decide) (by decide) tw_cl_L_19 (by decide), fun q => ?_⟩
      refine g_astore_n hB 3 dL_rank_12 rfl (by decide) ?_
      refine g_iconst hB (nI 1) dL_rank_13 rfl ?_
      exact g_iret hB hr rfl (Nat.le_of_ble_eq_true rfl) (Nat.le_of_ble_eq_true rfl) (⟨by rw [e], by rw [e]; rfl⟩) dL_rank_14
  rintro _ _ ⟨e, rfl, rfl⟩
  refine g_i2l hB dL_rank_7 ?_
  refine s_last hB 0 _ (rfl) dL_rank_8 (by decide) ?_
  refine g_goto hB 15 dL_rank_9 (by decide) ?_
  refine g_iconst hB (nI 0) dL_rank_15 rfl ?_
  exact g_iret hB hr rfl (Nat.le_of_ble_eq_true rfl) (Nat.le_of_ble_eq_true rfl) (⟨by rw [e], by rw [e]; rfl⟩) dL_rank_16
theorem c_L_approvals (hl : l.stackTraces = false) (S : Mem) (ng nm nc t pa : Nat) (h : KI S ng nm nc t pa) (x : Int32) : CHI l yL_approvals cL_approvals 4 (some .int) { frames := 8, cells := 1, slots := 6, locals := 124 } D ad CNT ca SR (SH ad ca S) [.ref (ad 0 0), .int (x), .ref (ad 19 0)] [(0, 9, 12, 19)] (HI ad ca (rqC x nc) S (uM (S) 19 0 0 (bcF (S 9 (ix x) 5)))) := by
  refine CHI.of _ RL (by decide +kernel) rfl (Nat.le_of_ble_eq_true rfl) ?_
  intro p9 e9 s9 m9 a9 b9 me9 c9 A9 hB hr hT
  refine g_aload_n hB 2 dL_approvals_0 rfl rfl ?_
  refine g_iconst hB (nI 0) dL_approvals_1 rfl ?_
  refine g_aload_n hB 0 dL_approvals_2 rfl rfl ?_
  refine g_iload_n hB 1 dL_approvals_3 rfl rfl ?_
  refine g_callCVI hB hT (c_X5_approvals hl _ ng nm nc t pa h _) k_L_73 rfl yk_X5_approvals ⟨Nat.le_of_ble_eq_true rfl, Nat.le_of_ble_eq_true rfl⟩ ⟨(by decide), _, _, _, rfl, rfl, rfl⟩ rfl (Nat.le_of_ble_eq_true rfl) ⟨Nat.le_of_ble_eq_true rfl, Nat.le_of_ble_eq_true rfl⟩ dL_approvals_4 (fun X hX => ?_) ?_
  · rcases pxc1 hX with ⟨e, rfl⟩
    · refine ⟨[], (0, 9, 12, 19), [], ca0 rfl (by decide) (by decide) (by decide) tw_cl_L_19 (by decide), fun q => ?_⟩
      refine g_astore_n hB 3 dL_approvals_12 rfl (by decide) ?_
      refine g_iconst hB (nI 1) dL_approvals_13 rfl ?_
      exact g_iret hB hr rfl (Nat.le_of_ble_eq_true rfl) (Nat.le_of_ble_eq_true rfl) (⟨by rw [e], by rw [e]; rfl⟩) dL_approvals_14
  rintro _ _ ⟨e, rfl, rfl⟩
  refine g_i2l hB dL_approvals_7 ?_
  refine s_last hB 0 _ (rfl) dL_approvals_8 (by decide) ?_
  refine g_goto hB 15 dL_approvals_9 (by decide) ?_
  refine g_iconst hB (nI 0) dL_approvals_15 rfl ?_
  exact g_iret hB hr rfl (Nat.le_of_ble_eq_true rfl) (Nat.le_of_ble_eq_true rfl) (⟨by rw [e], by rw [e]; rfl⟩) dL_approvals_16
theorem c_L_told (hl : l.stackTraces = false) (S : Mem) (ng nm nc t pa : Nat) (h : KI S ng nm nc t pa) (x : Int32) (y : Int32) : CHI l yL_told cL_told 5 (some .int) { frames := 8, cells := 2, slots := 12, locals := 126 } D ad CNT ca SR (SH ad ca S) [.ref (ad 0 0), .int (x), .int (y), .ref (ad 19 0)] [(0, 10, 13, 19)] (HI ad ca (toC x y ng nm) S (uM (S) 19 0 0 (toV S nc (ix (slF x ng nm)) (ix y)))) := by
  refine CHI.of _ RL (by decide +kernel) rfl (Nat.le_of_ble_eq_true rfl) ?_
  intro p9 e9 s9 m9 a9 b9 me9 c9 A9 hB hr hT
  refine g_aload_n hB 3 dL_told_0 rfl rfl ?_
  refine g_iconst hB (nI 0) dL_told_1 rfl ?_
  refine g_aload_n hB 0 dL_told_2 rfl rfl ?_
  refine g_iload_n hB 1 dL_told_3 rfl rfl ?_
  refine g_iload_n hB 2 dL_told_4 rfl rfl ?_
  refine g_callCVI hB hT (c_X5_told hl _ ng nm nc t pa h _ _) k_L_76 rfl yk_X5_told ⟨Nat.le_of_ble_eq_true rfl, Nat.le_of_ble_eq_true rfl⟩ ⟨(by decide), _, _, _, rfl, rfl, rfl⟩ rfl (Nat.le_of_ble_eq_true rfl) ⟨Nat.le_of_ble_eq_true rfl, Nat.le_of_ble_eq_true rfl⟩ dL_told_5 (fun X hX => ?_) ?_
  · rcases pxc1 hX with ⟨e, rfl⟩
    · refine ⟨[], (0, 10, 13, 19), [], ca0 rfl (by decide) (by decide) (by decide) tw_cl_L_19 (by decide), fun q => ?_⟩
      refine g_astore hB 4 dL_told_13 (by decide) ?_
      refine g_iconst hB (nI 1) dL_told_15 rfl ?_
      exact g_iret hB hr rfl (Nat.le_of_ble_eq_true rfl) (Nat.le_of_ble_eq_true rfl) (⟨by rw [e], by rw [e]; rfl⟩) dL_told_16
  rintro _ _ ⟨e, rfl, rfl⟩
  refine g_i2l hB dL_told_8 ?_
  refine s_last hB 0 _ (rfl) dL_told_9 (by decide) ?_
  refine g_goto hB 17 dL_told_10 (by decide) ?_
  refine g_iconst hB (nI 0) dL_told_17 rfl ?_
  exact g_iret hB hr rfl (Nat.le_of_ble_eq_true rfl) (Nat.le_of_ble_eq_true rfl) (⟨by rw [e], by rw [e]; rfl⟩) dL_told_18
theorem c_L_taken (hl : l.stackTraces = false) (S : Mem) (ng nm nc t pa : Nat) (h : KI S ng nm nc t pa) (x : Int32) (y : Int32) (z : Int32) : CHI l yL_taken cL_taken 6 (some .int) { frames := 8, cells := 3, slots := 18, locals := 127 } D ad CNT ca SR (SH ad ca S) [.ref (ad 0 0), .int (x), .int (y), .int (z), .ref (ad 19 0)] [(0, 12, 15, 19)] (HI ad ca (taC S x y z nm) S (uM (S) 19 0 0 (S 8 (ix x) ((clay S (ix x)).getD (ix y) 0 * 6 + ix z)))) := by
  refine CHI.of _ RL (by decide +kernel) rfl (Nat.le_of_ble_eq_true rfl) ?_
  intro p9 e9 s9 m9 a9 b9 me9 c9 A9 hB hr hT
  refine g_aload hB 4 dL_taken_0 rfl ?_
  refine g_iconst hB (nI 0) dL_taken_2 rfl ?_
  refine g_aload_n hB 0 dL_taken_3 rfl rfl ?_
  refine g_iload_n hB 1 dL_taken_4 rfl rfl ?_
  refine g_iload_n hB 2 dL_taken_5 rfl rfl ?_
  refine g_iload_n hB 3 dL_taken_6 rfl rfl ?_
  refine g_callCVI hB hT (c_X5_taken hl _ ng nm nc t pa h _ _ _) k_L_79 rfl yk_X5_taken ⟨Nat.le_of_ble_eq_true rfl, Nat.le_of_ble_eq_true rfl⟩ ⟨(by decide), _, _, _, rfl, rfl, rfl⟩ rfl (Nat.le_of_ble_eq_true rfl) ⟨Nat.le_of_ble_eq_true rfl, Nat.le_of_ble_eq_true rfl⟩ dL_taken_7 (fun X hX => ?_) ?_
  · rcases pxc1 hX with ⟨e, rfl⟩
    · refine ⟨[], (0, 12, 15, 19), [], ca0 rfl (by decide) (by decide) (by decide) tw_cl_L_19 (by decide), fun q => ?_⟩
      refine g_astore hB 5 dL_taken_15 (by decide) ?_
      refine g_iconst hB (nI 1) dL_taken_17 rfl ?_
      exact g_iret hB hr rfl (Nat.le_of_ble_eq_true rfl) (Nat.le_of_ble_eq_true rfl) (⟨by rw [e], by rw [e]; rfl⟩) dL_taken_18
  rintro _ _ ⟨e, rfl, rfl⟩
  refine g_i2l hB dL_taken_10 ?_
  refine s_last hB 0 _ (rfl) dL_taken_11 (by decide) ?_
  refine g_goto hB 19 dL_taken_12 (by decide) ?_
  refine g_iconst hB (nI 0) dL_taken_19 rfl ?_
  exact g_iret hB hr rfl (Nat.le_of_ble_eq_true rfl) (Nat.le_of_ble_eq_true rfl) (⟨by rw [e], by rw [e]; rfl⟩) dL_taken_20
theorem c_L_runs (hl : l.stackTraces = false) (S : Mem) (ng nm nc t pa : Nat) (h : KI S ng nm nc t pa) (x : Int32) (y : Int32) : CHI l yL_runs cL_runs 5 (some .int) { frames := 8, cells := 2, slots := 12, locals := 137 } D ad CNT ca SR (SH ad ca S) [.ref (ad 0 0), .int (x), .int (y), .ref (ad 19 0)] [(0, 10, 13, 19)] (HI ad ca (r2C x y nm) S (uM (ruM S nc (ix x)) 19 0 0 (vsh (ruM S nc (ix x)) (ix y)))) := by
  refine CHI.of _ RL (by decide +kernel) rfl (Nat.le_of_ble_eq_true rfl) ?_
  intro p9 e9 s9 m9 a9 b9 me9 c9 A9 hB hr hT
  refine g_aload_n hB 3 dL_runs_0 rfl rfl ?_
  refine g_iconst hB (nI 0) dL_runs_1 rfl ?_
  refine g_aload_n hB 0 dL_runs_2 rfl rfl ?_
  refine g_iload_n hB 1 dL_runs_3 rfl rfl ?_
  refine g_iload_n hB 2 dL_runs_4 rfl rfl ?_
  refine g_callCVI hB hT (c_X5_runs hl _ ng nm nc t pa h _ _) k_L_83 rfl yk_X5_runs ⟨Nat.le_of_ble_eq_true rfl, Nat.le_of_ble_eq_true rfl⟩ ⟨(by decide), _, _, _, rfl, rfl, rfl⟩ rfl (Nat.le_of_ble_eq_true rfl) ⟨Nat.le_of_ble_eq_true rfl, Nat.le_of_ble_eq_true rfl⟩ dL_runs_5 (fun X hX => ?_) ?_
  · rcases pxc1 hX with ⟨e, rfl⟩
    · refine ⟨[], (0, 10, 13, 19), [], ca0 rfl (by decide) (by decide) (by decide) tw_cl_L_19 (by decide), fun q => ?_⟩
      refine g_astore hB 4 dL_runs_13 (by decide) ?_
      refine g_iconst hB (nI 1) dL_runs_15 rfl ?_
      exact g_iret hB hr rfl (Nat.le_of_ble_eq_true rfl) (Nat.le_of_ble_eq_true rfl) (⟨by rw [e], by rw [e]; rfl⟩) dL_runs_16
  rintro _ _ ⟨e, rfl, rfl⟩
  refine g_i2l hB dL_runs_8 ?_
  refine s_last hB 0 _ (rfl) dL_runs_9 (by decide) ?_
  refine g_goto hB 17 dL_runs_10 (by decide) ?_
  refine g_iconst hB (nI 0) dL_runs_17 rfl ?_
  exact g_iret hB hr rfl (Nat.le_of_ble_eq_true rfl) (Nat.le_of_ble_eq_true rfl) (⟨by rw [e], by rw [e]; rfl⟩) dL_runs_18
theorem c_L_layerOf (hl : l.stackTraces = false) (S : Mem) (ng nm nc t pa : Nat) (h : KI S ng nm nc t pa) (x : Int32) (y : Int32) : CHI l yL_layerOf cL_layerOf 5 (some .int) { frames := 8, cells := 2, slots := 12, locals := 137 } D ad CNT ca SR (SH ad ca S) [.ref (ad 0 0), .int (x), .int (y), .ref (ad 19 0)] [(0, 10, 13, 19)] (HI ad ca (r2C x y nm) S (uM (ruM S nc (ix x)) 19 0 0 (loV (ruM S nc (ix x)) (ix y)))) := by
  refine CHI.of _ RL (by decide +kernel) rfl (Nat.le_of_ble_eq_true rfl) ?_
  intro p9 e9 s9 m9 a9 b9 me9 c9 A9 hB hr hT
  refine g_aload_n hB 3 dL_layerOf_0 rfl rfl ?_
  refine g_iconst hB (nI 0) dL_layerOf_1 rfl ?_
  refine g_aload_n hB 0 dL_layerOf_2 rfl rfl ?_
  refine g_iload_n hB 1 dL_layerOf_3 rfl rfl ?_
  refine g_iload_n hB 2 dL_layerOf_4 rfl rfl ?_
  refine g_callCVI hB hT (c_X5_layerOf hl _ ng nm nc t pa h _ _) k_L_86 rfl yk_X5_layerOf ⟨Nat.le_of_ble_eq_true rfl, Nat.le_of_ble_eq_true rfl⟩ ⟨(by decide), _, _, _, rfl, rfl, rfl⟩ rfl (Nat.le_of_ble_eq_true rfl) ⟨Nat.le_of_ble_eq_true rfl, Nat.le_of_ble_eq_true rfl⟩ dL_layerOf_5 (fun X hX => ?_) ?_
  · rcases pxc1 hX with ⟨e, rfl⟩
    · refine ⟨[], (0, 10, 13, 19), [], ca0 rfl (by decide) (by decide) (by decide) tw_cl_L_19 (by decide), fun q => ?_⟩
      refine g_astore hB 4 dL_layerOf_13 (by decide) ?_
      refine g_iconst hB (nI 1) dL_layerOf_15 rfl ?_
      exact g_iret hB hr rfl (Nat.le_of_ble_eq_true rfl) (Nat.le_of_ble_eq_true rfl) (⟨by rw [e], by rw [e]; rfl⟩) dL_layerOf_16
  rintro _ _ ⟨e, rfl, rfl⟩
  refine g_i2l hB dL_layerOf_8 ?_
  refine s_last hB 0 _ (rfl) dL_layerOf_9 (by decide) ?_
  refine g_goto hB 17 dL_layerOf_10 (by decide) ?_
  refine g_iconst hB (nI 0) dL_layerOf_17 rfl ?_
  exact g_iret hB hr rfl (Nat.le_of_ble_eq_true rfl) (Nat.le_of_ble_eq_true rfl) (⟨by rw [e], by rw [e]; rfl⟩) dL_layerOf_18
theorem c_L_due (hl : l.stackTraces = false) (S : Mem) (ng nm nc t pa : Nat) (h : KI S ng nm nc t pa) (x : Int32) (y : Int32) : CHI l yL_due cL_due 5 (some .int) { frames := 8, cells := 2, slots := 12, locals := 125 } D ad CNT ca SR (SH ad ca S) [.ref (ad 0 0), .int (x), .int (y), .ref (ad 19 0)] [(0, 10, 13, 19)] (HI ad ca (r2C x y nm) S (uM (duM S nc (ix x)) 19 0 0 (vsh (duM S nc (ix x)) (ix y)))) := by
  refine CHI.of _ RL (by decide +kernel) rfl (Nat.le_of_ble_eq_true rfl) ?_
  intro p9 e9 s9 m9 a9 b9 me9 c9 A9 hB hr hT
  refine g_aload_n hB 3 dL_due_0 rfl rfl ?_
  refine g_iconst hB (nI 0) dL_due_1 rfl ?_
  refine g_aload_n hB 0 dL_due_2 rfl rfl ?_
  refine g_iload_n hB 1 dL_due_3 rfl rfl ?_
  refine g_iload_n hB 2 dL_due_4 rfl rfl ?_
  refine g_callCVI hB hT (c_X5_due hl _ ng nm nc t pa h _ _) k_L_89 rfl yk_X5_due ⟨Nat.le_of_ble_eq_true rfl, Nat.le_of_ble_eq_true rfl⟩ ⟨(by decide), _, _, _, rfl, rfl, rfl⟩ rfl (Nat.le_of_ble_eq_true rfl) ⟨Nat.le_of_ble_eq_true rfl, Nat.le_of_ble_eq_true rfl⟩ dL_due_5 (fun X hX => ?_) ?_
  · rcases pxc1 hX with ⟨e, rfl⟩
    · refine ⟨[], (0, 10, 13, 19), [], ca0 rfl (by decide) (by decide) (by decide) tw_cl_L_19 (by decide), fun q => ?_⟩
      refine g_astore hB 4 dL_due_13 (by decide) ?_
      refine g_iconst hB (nI 1) dL_due_15 rfl ?_
      exact g_iret hB hr rfl (Nat.le_of_ble_eq_true rfl) (Nat.le_of_ble_eq_true rfl) (⟨by rw [e], by rw [e]; rfl⟩) dL_due_16
  rintro _ _ ⟨e, rfl, rfl⟩
  refine g_i2l hB dL_due_8 ?_
  refine s_last hB 0 _ (rfl) dL_due_9 (by decide) ?_
  refine g_goto hB 17 dL_due_10 (by decide) ?_
  refine g_iconst hB (nI 0) dL_due_17 rfl ?_
  exact g_iret hB hr rfl (Nat.le_of_ble_eq_true rfl) (Nat.le_of_ble_eq_true rfl) (⟨by rw [e], by rw [e]; rfl⟩) dL_due_18
theorem c_L_dueAnew (hl : l.stackTraces = false) (S : Mem) (ng nm nc t pa : Nat) (h : KI S ng nm nc t pa) (hau : ∀ c, c < nc → ∃ a, a < 8 ∧ S 9 c 0 = nI a) (x : Int32) (y : Int32) : CHI l yL_dueAnew cL_dueAnew 5 (some .int) { frames := 8, cells := 2, slots := 12, locals := 125 } D ad CNT ca SR (SH ad ca S) [.ref (ad 0 0), .int (x), .int (y), .ref (ad 19 0)] [(0, 10, 13, 19)] (HI ad ca (r2C x y nm) S (uM (daM S nc (ix x)) 19 0 0 (vsh (daM S nc (ix x)) (ix y)))) := by
  refine CHI.of _ RL (by decide +kernel) rfl (Nat.le_of_ble_eq_true rfl) ?_
  intro p9 e9 s9 m9 a9 b9 me9 c9 A9 hB hr hT
  refine g_aload_n hB 3 dL_dueAnew_0 rfl rfl ?_
  refine g_iconst hB (nI 0) dL_dueAnew_1 rfl ?_
  refine g_aload_n hB 0 dL_dueAnew_2 rfl rfl ?_
  refine g_iload_n hB 1 dL_dueAnew_3 rfl rfl ?_
  refine g_iload_n hB 2 dL_dueAnew_4 rfl rfl ?_
  refine g_callCVI hB hT (c_X5_dueAnew hl _ ng nm nc t pa h hau _ _) k_L_92 rfl yk_X5_dueAnew ⟨Nat.le_of_ble_eq_true rfl, Nat.le_of_ble_eq_true rfl⟩ ⟨(by decide), _, _, _, rfl, rfl, rfl⟩ rfl (Nat.le_of_ble_eq_true rfl) ⟨Nat.le_of_ble_eq_true rfl, Nat.le_of_ble_eq_true rfl⟩ dL_dueAnew_5 (fun X hX => ?_) ?_
  · rcases pxc1 hX with ⟨e, rfl⟩
    · refine ⟨[], (0, 10, 13, 19), [], ca0 rfl (by decide) (by decide) (by decide) tw_cl_L_19 (by decide), fun q => ?_⟩
      refine g_astore hB 4 dL_dueAnew_13 (by decide) ?_
      refine g_iconst hB (nI 1) dL_dueAnew_15 rfl ?_
      exact g_iret hB hr rfl (Nat.le_of_ble_eq_true rfl) (Nat.le_of_ble_eq_true rfl) (⟨by rw [e], by rw [e]; rfl⟩) dL_dueAnew_16
  rintro _ _ ⟨e, rfl, rfl⟩
  refine g_i2l hB dL_dueAnew_8 ?_
  refine s_last hB 0 _ (rfl) dL_dueAnew_9 (by decide) ?_
  refine g_goto hB 17 dL_dueAnew_10 (by decide) ?_
  refine g_iconst hB (nI 0) dL_dueAnew_17 rfl ?_
  exact g_iret hB hr rfl (Nat.le_of_ble_eq_true rfl) (Nat.le_of_ble_eq_true rfl) (⟨by rw [e], by rw [e]; rfl⟩) dL_dueAnew_18
theorem c_L_behind (hl : l.stackTraces = false) (S : Mem) (ng nm nc t pa : Nat) (h : KI S ng nm nc t pa) (x : Int32) : CHI l yL_behind cL_behind 4 (some .int) { frames := 8, cells := 1, slots := 6, locals := 127 } D ad CNT ca SR (SH ad ca S) [.ref (ad 0 0), .int (x), .ref (ad 19 0)] [(0, 9, 12, 19)] (HI ad ca (rqC x nm) S (uM (S) 19 0 0 (nI (bhN S (ix x))))) := by
  refine CHI.of _ RL (by decide +kernel) rfl (Nat.le_of_ble_eq_true rfl) ?_
  intro p9 e9 s9 m9 a9 b9 me9 c9 A9 hB hr hT
  refine g_aload_n hB 2 dL_behind_0 rfl rfl ?_
  refine g_iconst hB (nI 0) dL_behind_1 rfl ?_
  refine g_aload_n hB 0 dL_behind_2 rfl rfl ?_
  refine g_iload_n hB 1 dL_behind_3 rfl rfl ?_
  refine g_callCVI hB hT (c_X5_behind hl _ ng nm nc t pa h _) k_L_95 rfl yk_X5_behind ⟨Nat.le_of_ble_eq_true rfl, Nat.le_of_ble_eq_true rfl⟩ ⟨(by decide), _, _, _, rfl, rfl, rfl⟩ rfl (Nat.le_of_ble_eq_true rfl) ⟨Nat.le_of_ble_eq_true rfl, Nat.le_of_ble_eq_true rfl⟩ dL_behind_4 (fun X hX => ?_) ?_
  · rcases pxc1 hX with ⟨e, rfl⟩
    · refine ⟨[], (0, 9, 12, 19), [], ca0 rfl (by decide) (by decide) (by decide) tw_cl_L_19 (by decide), fun q => ?_⟩
      refine g_astore_n hB 3 dL_behind_12 rfl (by decide) ?_
      refine g_iconst hB (nI 1) dL_behind_13 rfl ?_
      exact g_iret hB hr rfl (Nat.le_of_ble_eq_true rfl) (Nat.le_of_ble_eq_true rfl) (⟨by rw [e], by rw [e]; rfl⟩) dL_behind_14
  rintro _ _ ⟨e, rfl, rfl⟩
  refine g_i2l hB dL_behind_7 ?_
  refine s_last hB 0 _ (rfl) dL_behind_8 (by decide) ?_
  refine g_goto hB 15 dL_behind_9 (by decide) ?_
  refine g_iconst hB (nI 0) dL_behind_15 rfl ?_
  exact g_iret hB hr rfl (Nat.le_of_ble_eq_true rfl) (Nat.le_of_ble_eq_true rfl) (⟨by rw [e], by rw [e]; rfl⟩) dL_behind_16
theorem c_L_hidden (hl : l.stackTraces = false) (S : Mem) (ng nm nc t pa : Nat) (h : KI S ng nm nc t pa) (x : Int32) : CHI l yL_hidden cL_hidden 4 (some .int) { frames := 8, cells := 1, slots := 6, locals := 124 } D ad CNT ca SR (SH ad ca S) [.ref (ad 0 0), .int (x), .ref (ad 19 0)] [(0, 9, 12, 19)] (HI ad ca (rqC x nm) S (uM (duM S nc (ix x)) 19 0 0 (duM S nc (ix x) 15 0 3))) := by
  refine CHI.of _ RL (by decide +kernel) rfl (Nat.le_of_ble_eq_true rfl) ?_
  intro p9 e9 s9 m9 a9 b9 me9 c9 A9 hB hr hT
  refine g_aload_n hB 2 dL_hidden_0 rfl rfl ?_
  refine g_iconst hB (nI 0) dL_hidden_1 rfl ?_
  refine g_aload_n hB 0 dL_hidden_2 rfl rfl ?_
  refine g_iload_n hB 1 dL_hidden_3 rfl rfl ?_
  refine g_callCVI hB hT (c_X5_hidden hl _ ng nm nc t pa h _) k_L_98 rfl yk_X5_hidden ⟨Nat.le_of_ble_eq_true rfl, Nat.le_of_ble_eq_true rfl⟩ ⟨(by decide), _, _, _, rfl, rfl, rfl⟩ rfl (Nat.le_of_ble_eq_true rfl) ⟨Nat.le_of_ble_eq_true rfl, Nat.le_of_ble_eq_true rfl⟩ dL_hidden_4 (fun X hX => ?_) ?_
  · rcases pxc1 hX with ⟨e, rfl⟩
    · refine ⟨[], (0, 9, 12, 19), [], ca0 rfl (by decide) (by decide) (by decide) tw_cl_L_19 (by decide), fun q => ?_⟩
      refine g_astore_n hB 3 dL_hidden_12 rfl (by decide) ?_
      refine g_iconst hB (nI 1) dL_hidden_13 rfl ?_
      exact g_iret hB hr rfl (Nat.le_of_ble_eq_true rfl) (Nat.le_of_ble_eq_true rfl) (⟨by rw [e], by rw [e]; rfl⟩) dL_hidden_14
  rintro _ _ ⟨e, rfl, rfl⟩
  refine g_i2l hB dL_hidden_7 ?_
  refine s_last hB 0 _ (rfl) dL_hidden_8 (by decide) ?_
  refine g_goto hB 15 dL_hidden_9 (by decide) ?_
  refine g_iconst hB (nI 0) dL_hidden_15 rfl ?_
  exact g_iret hB hr rfl (Nat.le_of_ble_eq_true rfl) (Nat.le_of_ble_eq_true rfl) (⟨by rw [e], by rw [e]; rfl⟩) dL_hidden_16
theorem c_L_spread (hl : l.stackTraces = false) (S : Mem) (ng nm nc t pa : Nat) (h : KI S ng nm nc t pa) (x : Int32) : CHI l yL_spread cL_spread 4 (some .int) { frames := 8, cells := 1, slots := 6, locals := 127 } D ad CNT ca SR (SH ad ca S) [.ref (ad 0 0), .int (x), .ref (ad 19 0)] [(0, 9, 12, 19)] (HI ad ca (rqC x nc) S (uM (S) 19 0 0 (nI (sdN S nm (ix x))))) := by
  refine CHI.of _ RL (by decide +kernel) rfl (Nat.le_of_ble_eq_true rfl) ?_
  intro p9 e9 s9 m9 a9 b9 me9 c9 A9 hB hr hT
  refine g_aload_n hB 2 dL_spread_0 rfl rfl ?_
  refine g_iconst hB (nI 0) dL_spread_1 rfl ?_
  refine g_aload_n hB 0 dL_spread_2 rfl rfl ?_
  refine g_iload_n hB 1 dL_spread_3 rfl rfl ?_
  refine g_callCVI hB hT (c_X5_spread hl _ ng nm nc t pa h _) k_L_101 rfl yk_X5_spread ⟨Nat.le_of_ble_eq_true rfl, Nat.le_of_ble_eq_true rfl⟩ ⟨(by decide), _, _, _, rfl, rfl, rfl⟩ rfl (Nat.le_of_ble_eq_true rfl) ⟨Nat.le_of_ble_eq_true rfl, Nat.le_of_ble_eq_true rfl⟩ dL_spread_4 (fun X hX => ?_) ?_
  · rcases pxc1 hX with ⟨e, rfl⟩
    · refine ⟨[], (0, 9, 12, 19), [], ca0 rfl (by decide) (by decide) (by decide) tw_cl_L_19 (by decide), fun q => ?_⟩
      refine g_astore_n hB 3 dL_spread_12 rfl (by decide) ?_
      refine g_iconst hB (nI 1) dL_spread_13 rfl ?_
      exact g_iret hB hr rfl (Nat.le_of_ble_eq_true rfl) (Nat.le_of_ble_eq_true rfl) (⟨by rw [e], by rw [e]; rfl⟩) dL_spread_14
  rintro _ _ ⟨e, rfl, rfl⟩
  refine g_i2l hB dL_spread_7 ?_
  refine s_last hB 0 _ (rfl) dL_spread_8 (by decide) ?_
  refine g_goto hB 15 dL_spread_9 (by decide) ?_
  refine g_iconst hB (nI 0) dL_spread_15 rfl ?_
  exact g_iret hB hr rfl (Nat.le_of_ble_eq_true rfl) (Nat.le_of_ble_eq_true rfl) (⟨by rw [e], by rw [e]; rfl⟩) dL_spread_16

end LH
