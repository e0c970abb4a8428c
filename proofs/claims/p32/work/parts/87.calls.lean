/-! the law: a call of the class, its answer or -3 -/
section L9
variable {l : Launch} {D : va_G} {ad : Nat → Nat → Nat} {ca : Nat → ClassId}
def HC (ad : Nat → Nat → Nat) (ca : Nat → ClassId) (code : Nat) (v : Int32) (S T : Mem) : Int32 → Rl → Prop := fun r E' => r = (bif Nat.beq code 0 then v else -3) ∧ E' = SH ad ca (bif Nat.beq code 0 then T else S)

theorem c_L_calls_propose (hl : l.stackTraces = false) (S : Mem) (ng nm nc t pa : Nat) (h : KI S ng nm nc t pa) (x y z w : Int32) (n1 : prC S x y z w ng nm nc ≠ 1) (n2 : prC S x y z w ng nm nc ≠ 2) : CHI l yL_calls cL_calls 7 (some .int) { frames := 8, cells := 14, slots := 84, locals := 134 } D ad CNT ca SR (SH ad ca S) [.ref (ad 0 0), .int (nI 0), .int (x), .int (y), .int (z), .int (w)] [(0, 74, 75, 30)] (HC ad ca (prC S x y z w ng nm nc) (nI nc) S (prM S nc x (nI (ix (slF y ng nm) * 6 + ix z)) w)) := by
  refine CHI.of _ RL (by decide +kernel) rfl (Nat.le_of_ble_eq_true rfl) ?_
  intro p9 e9 s9 m9 a9 b9 me9 c9 A9 hB hr hT
  refine g_iload_n hB 1 dL_calls_0 rfl rfl ?_
  refine g_if_ne hB 17 dL_calls_1 (by decide) (fun z => absurd rfl z) (fun _ => ?_)
  refine g_aload_n hB 0 dL_calls_4 rfl rfl ?_
  refine g_iload_n hB 2 dL_calls_5 rfl rfl ?_
  refine g_iload_n hB 3 dL_calls_6 rfl rfl ?_
  refine g_iload hB 4 dL_calls_7 rfl ?_
  refine g_iload hB 5 dL_calls_9 rfl ?_
  refine g_callCVI hB hT (c_X5_propose hl _ ng nm nc t pa h _ _ _ _) k_L_10 rfl yk_X5_propose ⟨Nat.le_of_ble_eq_true rfl, Nat.le_of_ble_eq_true rfl⟩ ⟨(by decide), _, _, _, rfl, rfl, rfl⟩ rfl (Nat.le_of_ble_eq_true rfl) ⟨Nat.le_of_ble_eq_true rfl, Nat.le_of_ble_eq_true rfl⟩ dL_calls_11 (fun X hX => ?_) ?_
  · rcases pxc3 hX with ⟨e, hx⟩ | ⟨e, hx⟩ | ⟨e, rfl⟩
    · exact absurd e n1
    · exact absurd e n2
    · refine ⟨[], (0, 74, 75, 30), [], ca0 rfl (by decide) (by decide) (by decide) tw_cl_L_30 (by decide), fun q => ?_⟩
      refine g_astore hB 6 dL_calls_75 (by decide) ?_
      refine g_bipush hB (-3) dL_calls_77 rfl ?_
      exact g_iret hB hr rfl (Nat.le_of_ble_eq_true rfl) (Nat.le_of_ble_eq_true rfl) (⟨by rw [e]; rfl, by rw [e]; rfl⟩) dL_calls_79
  rintro _ _ ⟨e, rfl, rfl⟩
  refine g_goto hB 74 dL_calls_14 (by decide) ?_
  exact g_iret hB hr rfl (Nat.le_of_ble_eq_true rfl) (Nat.le_of_ble_eq_true rfl) (⟨by rw [e]; rfl, by rw [e]; rfl⟩) dL_calls_74
theorem c_L_calls_approve (hl : l.stackTraces = false) (S : Mem) (ng nm nc t pa : Nat) (h : KI S ng nm nc t pa) (x y : Int32) (n1 : apC S x y nc t ≠ 1) : CHI l yL_calls cL_calls 7 (some .int) { frames := 8, cells := 14, slots := 84, locals := 134 } D ad CNT ca SR (SH ad ca S) [.ref (ad 0 0), .int (nI 1), .int (x), .int (y), .int (nI 0), .int (nI 0)] [(0, 74, 75, 30)] (HC ad ca (apC S x y nc t) (apM S (ix x) (ix y) nc 9 (ix y) 4) S (apM S (ix x) (ix y) nc)) := by
  refine CHI.of _ RL (by decide +kernel) rfl (Nat.le_of_ble_eq_true rfl) ?_
  intro p9 e9 s9 m9 a9 b9 me9 c9 A9 hB hr hT
  refine g_iload_n hB 1 dL_calls_0 rfl rfl ?_
  refine g_if_ne hB 17 dL_calls_1 (by decide) (fun _ => ?_) (fun z => absurd z (by decide))
  refine g_iload_n hB 1 dL_calls_17 rfl rfl ?_
  refine g_iconst hB (nI 1) dL_calls_18 rfl ?_
  refine n_icmp_ne hB 1 1 31 dL_calls_19 (by decide) (by decide) (by decide) (fun z => absurd z (by decide)) (fun _ => ?_)
  refine g_aload_n hB 0 dL_calls_22 rfl rfl ?_
  refine g_iload_n hB 2 dL_calls_23 rfl rfl ?_
  refine g_iload_n hB 3 dL_calls_24 rfl rfl ?_
  refine g_callCVI hB hT (c_X5_approve hl _ ng nm nc t pa h _ _) k_L_16 rfl yk_X5_approve ⟨Nat.le_of_ble_eq_true rfl, Nat.le_of_ble_eq_true rfl⟩ ⟨(by decide), _, _, _, rfl, rfl, rfl⟩ rfl (Nat.le_of_ble_eq_true rfl) ⟨Nat.le_of_ble_eq_true rfl, Nat.le_of_ble_eq_true rfl⟩ dL_calls_25 (fun X hX => ?_) ?_
  · rcases pxc2 hX with ⟨e, hx⟩ | ⟨e, rfl⟩
    · exact absurd e n1
    · refine ⟨[], (0, 74, 75, 30), [], ca0 rfl (by decide) (by decide) (by decide) tw_cl_L_30 (by decide), fun q => ?_⟩
      refine g_astore hB 6 dL_calls_75 (by decide) ?_
      refine g_bipush hB (-3) dL_calls_77 rfl ?_
      exact g_iret hB hr rfl (Nat.le_of_ble_eq_true rfl) (Nat.le_of_ble_eq_true rfl) (⟨by rw [e]; rfl, by rw [e]; rfl⟩) dL_calls_79
  rintro _ _ ⟨e, rfl, rfl⟩
  refine g_goto hB 74 dL_calls_28 (by decide) ?_
  exact g_iret hB hr rfl (Nat.le_of_ble_eq_true rfl) (Nat.le_of_ble_eq_true rfl) (⟨by rw [e]; rfl, by rw [e]; rfl⟩) dL_calls_74
theorem c_L_calls_leave (hl : l.stackTraces = false) (S : Mem) (ng nm nc t pa : Nat) (h : KI S ng nm nc t pa) (x : Int32) (b : Bool) (n1 : leC S x ≠ 1) : CHI l yL_calls cL_calls 7 (some .int) { frames := 8, cells := 14, slots := 84, locals := 134 } D ad CNT ca SR (SH ad ca S) [.ref (ad 0 0), .int (nI 2), .int (x), .int (bI (b)), .int (nI 0), .int (nI 0)] [(0, 74, 75, 30)] (HC ad ca (leC S x) (leV S (ix x) nc b) S (leM S (ix x) nc nm b)) := by
  refine CHI.of _ RL (by decide +kernel) rfl (Nat.le_of_ble_eq_true rfl) ?_
  intro p9 e9 s9 m9 a9 b9 me9 c9 A9 hB hr hT
  cases b with
  | true =>
    refine g_iload_n hB 1 dL_calls_0 rfl rfl ?_
    refine g_if_ne hB 17 dL_calls_1 (by decide) (fun _ => ?_) (fun z => absurd z (by decide))
    refine g_iload_n hB 1 dL_calls_17 rfl rfl ?_
    refine g_iconst hB (nI 1) dL_calls_18 rfl ?_
    refine n_icmp_ne hB 2 1 31 dL_calls_19 (by decide) (by decide) (by decide) (fun _ => ?_) (fun z => absurd z (by decide))
    refine g_iload_n hB 1 dL_calls_31 rfl rfl ?_
    refine g_iconst hB (nI 2) dL_calls_32 rfl ?_
    refine n_icmp_ne hB 2 2 54 dL_calls_33 (by decide) (by decide) (by decide) (fun z => absurd z (by decide)) (fun _ => ?_)
    refine g_aload_n hB 0 dL_calls_36 rfl rfl ?_
    refine g_iload_n hB 2 dL_calls_37 rfl rfl ?_
    refine g_iload_n hB 3 dL_calls_38 rfl rfl ?_
    refine g_iconst hB (nI 1) dL_calls_39 rfl ?_
    refine g_icmp_ne hB 47 dL_calls_40 (by decide) (fun c_40 => ?_) (fun c_40 => ?_)
    · exact absurd rfl c_40
    · refine g_iconst hB (nI 1) dL_calls_43 rfl ?_
      refine g_goto hB 48 dL_calls_44 (by decide) ?_
      refine g_callCVI hB hT (c_X5_leave hl _ ng nm nc t pa h _ true) k_L_20 rfl yk_X5_leave ⟨Nat.le_of_ble_eq_true rfl, Nat.le_of_ble_eq_true rfl⟩ ⟨(by decide), _, _, _, rfl, rfl, rfl⟩ rfl (Nat.le_of_ble_eq_true rfl) ⟨Nat.le_of_ble_eq_true rfl, Nat.le_of_ble_eq_true rfl⟩ dL_calls_48 (fun X hX => ?_) ?_
      · rcases pxc2 hX with ⟨e, hx⟩ | ⟨e, rfl⟩
        · exact absurd e n1
        · refine ⟨[], (0, 74, 75, 30), [], ca0 rfl (by decide) (by decide) (by decide) tw_cl_L_30 (by decide), fun q => ?_⟩
          refine g_astore hB 6 dL_calls_75 (by decide) ?_
          refine g_bipush hB (-3) dL_calls_77 rfl ?_
          exact g_iret hB hr rfl (Nat.le_of_ble_eq_true rfl) (Nat.le_of_ble_eq_true rfl) (⟨by rw [e]; rfl, by rw [e]; rfl⟩) dL_calls_79
      rintro _ _ ⟨e, rfl, rfl⟩
      refine g_goto hB 74 dL_calls_51 (by decide) ?_
      exact g_iret hB hr rfl (Nat.le_of_ble_eq_true rfl) (Nat.le_of_ble_eq_true rfl) (⟨by rw [e]; rfl, by rw [e]; rfl⟩) dL_calls_74
  | false =>
    refine g_iload_n hB 1 dL_calls_0 rfl rfl ?_
    refine g_if_ne hB 17 dL_calls_1 (by decide) (fun _ => ?_) (fun z => absurd z (by decide))
    refine g_iload_n hB 1 dL_calls_17 rfl rfl ?_
    refine g_iconst hB (nI 1) dL_calls_18 rfl ?_
    refine n_icmp_ne hB 2 1 31 dL_calls_19 (by decide) (by decide) (by decide) (fun _ => ?_) (fun z => absurd z (by decide))
    refine g_iload_n hB 1 dL_calls_31 rfl rfl ?_
    refine g_iconst hB (nI 2) dL_calls_32 rfl ?_
    refine n_icmp_ne hB 2 2 54 dL_calls_33 (by decide) (by decide) (by decide) (fun z => absurd z (by decide)) (fun _ => ?_)
    refine g_aload_n hB 0 dL_calls_36 rfl rfl ?_
    refine g_iload_n hB 2 dL_calls_37 rfl rfl ?_
    refine g_iload_n hB 3 dL_calls_38 rfl rfl ?_
    refine g_iconst hB (nI 1) dL_calls_39 rfl ?_
    refine g_icmp_ne hB 47 dL_calls_40 (by decide) (fun c_40 => ?_) (fun c_40 => ?_)
    · refine g_iconst hB (nI 0) dL_calls_47 rfl ?_
      refine g_callCVI hB hT (c_X5_leave hl _ ng nm nc t pa h _ false) k_L_20 rfl yk_X5_leave ⟨Nat.le_of_ble_eq_true rfl, Nat.le_of_ble_eq_true rfl⟩ ⟨(by decide), _, _, _, rfl, rfl, rfl⟩ rfl (Nat.le_of_ble_eq_true rfl) ⟨Nat.le_of_ble_eq_true rfl, Nat.le_of_ble_eq_true rfl⟩ dL_calls_48 (fun X hX => ?_) ?_
      · rcases pxc2 hX with ⟨e, hx⟩ | ⟨e, rfl⟩
        · exact absurd e n1
        · refine ⟨[], (0, 74, 75, 30), [], ca0 rfl (by decide) (by decide) (by decide) tw_cl_L_30 (by decide), fun q => ?_⟩
          refine g_astore hB 6 dL_calls_75 (by decide) ?_
          refine g_bipush hB (-3) dL_calls_77 rfl ?_
          exact g_iret hB hr rfl (Nat.le_of_ble_eq_true rfl) (Nat.le_of_ble_eq_true rfl) (⟨by rw [e]; rfl, by rw [e]; rfl⟩) dL_calls_79
      rintro _ _ ⟨e, rfl, rfl⟩
      refine g_goto hB 74 dL_calls_51 (by decide) ?_
      exact g_iret hB hr rfl (Nat.le_of_ble_eq_true rfl) (Nat.le_of_ble_eq_true rfl) (⟨by rw [e]; rfl, by rw [e]; rfl⟩) dL_calls_74
    · exact absurd c_40 (by decide)
theorem c_L_calls_work (hl : l.stackTraces = false) (S : Mem) (ng nm nc t pa : Nat) (h : KI S ng nm nc t pa) (x y : Int32) (n1 : woC S x y nm nc ≠ 1) (n2 : woC S x y nm nc ≠ 2) : CHI l yL_calls cL_calls 7 (some .int) { frames := 8, cells := 14, slots := 84, locals := 134 } D ad CNT ca SR (SH ad ca S) [.ref (ad 0 0), .int (nI 3), .int (x), .int (y), .int (nI 0), .int (nI 0)] [(0, 74, 75, 30)] (HC ad ca (woC S x y nm nc) (S 0 0 0 + y) S (uM S 6 (ix x) 2 (S 0 0 0 + y))) := by
  refine CHI.of _ RL (by decide +kernel) rfl (Nat.le_of_ble_eq_true rfl) ?_
  intro p9 e9 s9 m9 a9 b9 me9 c9 A9 hB hr hT
  refine g_iload_n hB 1 dL_calls_0 rfl rfl ?_
  refine g_if_ne hB 17 dL_calls_1 (by decide) (fun _ => ?_) (fun z => absurd z (by decide))
  refine g_iload_n hB 1 dL_calls_17 rfl rfl ?_
  refine g_iconst hB (nI 1) dL_calls_18 rfl ?_
  refine n_icmp_ne hB 3 1 31 dL_calls_19 (by decide) (by decide) (by decide) (fun _ => ?_) (fun z => absurd z (by decide))
  refine g_iload_n hB 1 dL_calls_31 rfl rfl ?_
  refine g_iconst hB (nI 2) dL_calls_32 rfl ?_
  refine n_icmp_ne hB 3 2 54 dL_calls_33 (by decide) (by decide) (by decide) (fun _ => ?_) (fun z => absurd z (by decide))
  refine g_iload_n hB 1 dL_calls_54 rfl rfl ?_
  refine g_iconst hB (nI 3) dL_calls_55 rfl ?_
  refine n_icmp_ne hB 3 3 68 dL_calls_56 (by decide) (by decide) (by decide) (fun z => absurd z (by decide)) (fun _ => ?_)
  refine g_aload_n hB 0 dL_calls_59 rfl rfl ?_
  refine g_iload_n hB 2 dL_calls_60 rfl rfl ?_
  refine g_iload_n hB 3 dL_calls_61 rfl rfl ?_
  refine g_callCVI hB hT (c_X5_work hl _ ng nm nc t pa h _ _) k_L_24 rfl yk_X5_work ⟨Nat.le_of_ble_eq_true rfl, Nat.le_of_ble_eq_true rfl⟩ ⟨(by decide), _, _, _, rfl, rfl, rfl⟩ rfl (Nat.le_of_ble_eq_true rfl) ⟨Nat.le_of_ble_eq_true rfl, Nat.le_of_ble_eq_true rfl⟩ dL_calls_62 (fun X hX => ?_) ?_
  · rcases pxc3 hX with ⟨e, hx⟩ | ⟨e, hx⟩ | ⟨e, rfl⟩
    · exact absurd e n1
    · exact absurd e n2
    · refine ⟨[], (0, 74, 75, 30), [], ca0 rfl (by decide) (by decide) (by decide) tw_cl_L_30 (by decide), fun q => ?_⟩
      refine g_astore hB 6 dL_calls_75 (by decide) ?_
      refine g_bipush hB (-3) dL_calls_77 rfl ?_
      exact g_iret hB hr rfl (Nat.le_of_ble_eq_true rfl) (Nat.le_of_ble_eq_true rfl) (⟨by rw [e]; rfl, by rw [e]; rfl⟩) dL_calls_79
  rintro _ _ ⟨e, rfl, rfl⟩
  refine g_goto hB 74 dL_calls_65 (by decide) ?_
  exact g_iret hB hr rfl (Nat.le_of_ble_eq_true rfl) (Nat.le_of_ble_eq_true rfl) (⟨by rw [e]; rfl, by rw [e]; rfl⟩) dL_calls_74
theorem c_L_calls_move (hl : l.stackTraces = false) (S : Mem) (ng nm nc t pa : Nat) (h : KI S ng nm nc t pa) (x y : Int32) (n1 : mmC S x y ng nm ≠ 1) : CHI l yL_calls cL_calls 7 (some .int) { frames := 8, cells := 14, slots := 84, locals := 134 } D ad CNT ca SR (SH ad ca S) [.ref (ad 0 0), .int (nI 4), .int (x), .int (y), .int (nI 0), .int (nI 0)] [(0, 74, 75, 30)] (HC ad ca (mmC S x y ng nm) (S 6 (ix x) 1) S (egM S (ix x) (10 + ix x) (ix y))) := by
  refine CHI.of _ RL (by decide +kernel) rfl (Nat.le_of_ble_eq_true rfl) ?_
  intro p9 e9 s9 m9 a9 b9 me9 c9 A9 hB hr hT
  refine g_iload_n hB 1 dL_calls_0 rfl rfl ?_
  refine g_if_ne hB 17 dL_calls_1 (by decide) (fun _ => ?_) (fun z => absurd z (by decide))
  refine g_iload_n hB 1 dL_calls_17 rfl rfl ?_
  refine g_iconst hB (nI 1) dL_calls_18 rfl ?_
  refine n_icmp_ne hB 4 1 31 dL_calls_19 (by decide) (by decide) (by decide) (fun _ => ?_) (fun z => absurd z (by decide))
  refine g_iload_n hB 1 dL_calls_31 rfl rfl ?_
  refine g_iconst hB (nI 2) dL_calls_32 rfl ?_
  refine n_icmp_ne hB 4 2 54 dL_calls_33 (by decide) (by decide) (by decide) (fun _ => ?_) (fun z => absurd z (by decide))
  refine g_iload_n hB 1 dL_calls_54 rfl rfl ?_
  refine g_iconst hB (nI 3) dL_calls_55 rfl ?_
  refine n_icmp_ne hB 4 3 68 dL_calls_56 (by decide) (by decide) (by decide) (fun _ => ?_) (fun z => absurd z (by decide))
  refine g_aload_n hB 0 dL_calls_68 rfl rfl ?_
  refine g_iload_n hB 2 dL_calls_69 rfl rfl ?_
  refine g_iload_n hB 3 dL_calls_70 rfl rfl ?_
  refine g_callCVI hB hT (c_X5_moveMachine hl _ ng nm nc t pa h _ _) k_L_27 rfl yk_X5_moveMachine ⟨Nat.le_of_ble_eq_true rfl, Nat.le_of_ble_eq_true rfl⟩ ⟨(by decide), _, _, _, rfl, rfl, rfl⟩ rfl (Nat.le_of_ble_eq_true rfl) ⟨Nat.le_of_ble_eq_true rfl, Nat.le_of_ble_eq_true rfl⟩ dL_calls_71 (fun X hX => ?_) ?_
  · rcases pxc2 hX with ⟨e, hx⟩ | ⟨e, rfl⟩
    · exact absurd e n1
    · refine ⟨[], (0, 74, 75, 30), [], ca0 rfl (by decide) (by decide) (by decide) tw_cl_L_30 (by decide), fun q => ?_⟩
      refine g_astore hB 6 dL_calls_75 (by decide) ?_
      refine g_bipush hB (-3) dL_calls_77 rfl ?_
      exact g_iret hB hr rfl (Nat.le_of_ble_eq_true rfl) (Nat.le_of_ble_eq_true rfl) (⟨by rw [e]; rfl, by rw [e]; rfl⟩) dL_calls_79
  rintro _ _ ⟨e, rfl, rfl⟩
  exact g_iret hB hr rfl (Nat.le_of_ble_eq_true rfl) (Nat.le_of_ble_eq_true rfl) (⟨by rw [e]; rfl, by rw [e]; rfl⟩) dL_calls_74
theorem c_L_comes (hl : l.stackTraces = false) (S : Mem) (x : Int32) (n1 : cbC S x ≠ 1) : CHI l yL_comes cL_comes 3 (some .int) { frames := 8, cells := 2, slots := 12, locals := 124 } D ad CNT ca SR (SH ad ca S) [.ref (ad 0 0), .int (x)] [(0, 6, 7, 30)] (HC ad ca (cbC S x) 0 S (uM S 5 (ix x) 0 (nI 1))) := by
  refine CHI.of _ RL (by decide +kernel) rfl (Nat.le_of_ble_eq_true rfl) ?_
  intro p9 e9 s9 m9 a9 b9 me9 c9 A9 hB hr hT
  refine g_aload_n hB 0 dL_comes_0 rfl rfl ?_
  refine g_iload_n hB 1 dL_comes_1 rfl rfl ?_
  refine g_callCVV hB hT (c_X5_comeBack hl _ _) k_L_32 rfl yk_X5_comeBack ⟨Nat.le_of_ble_eq_true rfl, Nat.le_of_ble_eq_true rfl⟩ ⟨(by decide), _, _, _, rfl, rfl, rfl⟩ rfl (Nat.le_of_ble_eq_true rfl) ⟨Nat.le_of_ble_eq_true rfl, Nat.le_of_ble_eq_true rfl⟩ dL_comes_2 (fun X hX => ?_) ?_
  · rcases pxc2 hX with ⟨e, hx⟩ | ⟨e, rfl⟩
    · exact absurd e n1
    · refine ⟨[], (0, 6, 7, 30), [], ca0 rfl (by decide) (by decide) (by decide) tw_cl_L_30 (by decide), fun q => ?_⟩
      refine g_astore_n hB 2 dL_comes_7 rfl (by decide) ?_
      refine g_bipush hB (-3) dL_comes_8 rfl ?_
      exact g_iret hB hr rfl (Nat.le_of_ble_eq_true rfl) (Nat.le_of_ble_eq_true rfl) (⟨by rw [e]; rfl, by rw [e]; rfl⟩) dL_comes_10
  rintro _ ⟨e, rfl⟩
  refine g_iconst hB (nI 0) dL_comes_5 rfl ?_
  exact g_iret hB hr rfl (Nat.le_of_ble_eq_true rfl) (Nat.le_of_ble_eq_true rfl) (⟨by rw [e]; rfl, by rw [e]; rfl⟩) dL_comes_6
theorem c_L_withdraws (hl : l.stackTraces = false) (S : Mem) (ng nm nc t pa : Nat) (h : KI S ng nm nc t pa) (x : Int32) (n1 : wdC S x nc ≠ 1) : CHI l yL_withdraws cL_withdraws 3 (some .int) { frames := 8, cells := 2, slots := 12, locals := 125 } D ad CNT ca SR (SH ad ca S) [.ref (ad 0 0), .int (x)] [(0, 6, 7, 30)] (HC ad ca (wdC S x nc) 0 S (uM S 9 (ix x) 4 (nI 3))) := by
  refine CHI.of _ RL (by decide +kernel) rfl (Nat.le_of_ble_eq_true rfl) ?_
  intro p9 e9 s9 m9 a9 b9 me9 c9 A9 hB hr hT
  refine g_aload_n hB 0 dL_withdraws_0 rfl rfl ?_
  refine g_iload_n hB 1 dL_withdraws_1 rfl rfl ?_
  refine g_callCVV hB hT (c_X5_withdraw hl _ ng nm nc t pa h _) k_L_36 rfl yk_X5_withdraw ⟨Nat.le_of_ble_eq_true rfl, Nat.le_of_ble_eq_true rfl⟩ ⟨(by decide), _, _, _, rfl, rfl, rfl⟩ rfl (Nat.le_of_ble_eq_true rfl) ⟨Nat.le_of_ble_eq_true rfl, Nat.le_of_ble_eq_true rfl⟩ dL_withdraws_2 (fun X hX => ?_) ?_
  · rcases pxc2 hX with ⟨e, hx⟩ | ⟨e, rfl⟩
    · exact absurd e n1
    · refine ⟨[], (0, 6, 7, 30), [], ca0 rfl (by decide) (by decide) (by decide) tw_cl_L_30 (by decide), fun q => ?_⟩
      refine g_astore_n hB 2 dL_withdraws_7 rfl (by decide) ?_
      refine g_bipush hB (-3) dL_withdraws_8 rfl ?_
      exact g_iret hB hr rfl (Nat.le_of_ble_eq_true rfl) (Nat.le_of_ble_eq_true rfl) (⟨by rw [e]; rfl, by rw [e]; rfl⟩) dL_withdraws_10
  rintro _ ⟨e, rfl⟩
  refine g_iconst hB (nI 0) dL_withdraws_5 rfl ?_
  exact g_iret hB hr rfl (Nat.le_of_ble_eq_true rfl) (Nat.le_of_ble_eq_true rfl) (⟨by rw [e]; rfl, by rw [e]; rfl⟩) dL_withdraws_6
end L9
