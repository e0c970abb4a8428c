/-! constructors of the class's parts -/
section X10
variable {l : Launch} {D : va_G} {ad : Nat → Nat → Nat} {ca : Nat → ClassId} {SR : List (String × Nat × String)}

theorem c_X4_init (cn : Nat → Nat) (E : Rl) (i : Nat) (hi : i < cn 5) (hE : E 5 i = .inr (4, [.int 0, .int 0, .int 0, .int 0])) : CN l yX4_init cX4_init 1 { frames := 2, cells := 0, slots := 0, locals := 40 } D ad cn ca SR E [.ref (ad 5 i)] cn (fun ad' E' => ad' = ad ∧ E' = (uE E 5 i (.inr (4, [.int (nI 1), .int 0, .int 0, .int 0])))) := by
  refine CN.of _ RX4 (by decide +kernel) rfl (Nat.le_of_ble_eq_true rfl) ?_
  intro p9 e9 s9 m9 a9 b9 me9 c9 A9 hB hr hnm
  refine g_aload_n hB 0 dX4_init_0 rfl rfl ?_
  refine g_oinit hB tw_ml_X4_3 tw_im_objInit tw_code_objInit dX4_init_1 ⟨Nat.le_of_ble_eq_true rfl, Nat.le_of_ble_eq_true rfl⟩ ?_
  refine g_aload_n hB 0 dX4_init_4 rfl rfl ?_
  refine g_iconst hB (nI 1) dX4_init_5 rfl ?_
  refine g_put hB (ci := 4) (T := TX4) (N := 4) in_X4 rfl tyX4 tyX4_ok nmX4 5 i 0 (fs := [.int 0, .int 0, .int 0, .int 0]) (v := .int (nI 1)) (show i < _ from hi) (by decide) (hE) tw_fl_X4_9 rfl rfl rfl (Nat.le_of_ble_eq_true rfl) dX4_init_6 ?_
  exact g_nret hB hr (Nat.le_of_ble_eq_true rfl) (Nat.le_of_ble_eq_true rfl) ⟨rfl, by
      funext a b
      unfold uE
      by_cases g5_i : a = 5 ∧ b = i
      · simp only [if_pos g5_i]; try rfl
      · simp only [if_neg g5_i]; try rfl⟩ dX4_init_9

theorem c_X2_init (cn : Nat → Nat) (E : Rl) (i : Nat) (own : Nat) (hi : i < cn 6) (h7 : cn 7 = i) (h8 : cn 8 = i) (hE : E 6 i = .inr (2, [.int 0, .int 0, .int 0, .int 0, .null, .null])) : CN l yX2_init cX2_init 2 { frames := 2, cells := 2, slots := 143, locals := 40 } D ad cn ca SR E [.ref (ad 6 i), .int (nI (own))] (cnU (cnU cn 7 (i + 1)) 8 (i + 1)) (fun ad' E' => ∃ q0, ∃ q1, ad' = (adU (adU ad 7 i q0) 8 i q1) ∧ E' = (uE (uE (uE E 7 i (.inl (ca 0, 11, .inl (fun _ => 0)))) 8 i (.inl (ca 0, 132, .inl (ovl (fun _ => 0) 0 132 (fun _ => -1))))) 6 i (.inr (2, [.int (nI own), .int 0, .int 0, .int 0, .ref q0, .ref q1])))) := by
  refine CN.of _ RX2 (by decide +kernel) rfl (Nat.le_of_ble_eq_true rfl) ?_
  intro p9 e9 s9 m9 a9 b9 me9 c9 A9 hB hr hnm
  refine g_aload_n hB 0 dX2_init_0 rfl rfl ?_
  refine g_oinit hB tw_ml_X2_3 tw_im_objInit tw_code_objInit dX2_init_1 ⟨Nat.le_of_ble_eq_true rfl, Nat.le_of_ble_eq_true rfl⟩ ?_
  refine g_aload_n hB 0 dX2_init_4 rfl rfl ?_
  refine g_bipush hB (nI 11) dX2_init_5 rfl ?_
  refine g_newa hB 7 i 11 h7 (by decide) dX2_init_7 ⟨Nat.le_of_ble_eq_true rfl, Nat.le_of_ble_eq_true rfl⟩ (fun q0 => ?_)
  refine g_putF hB hnm (ci := 2) (T := TX2) (N := 6) in_X2 rfl tyX2 tyX2_ok nmX2 6 i 4 (fs := [.int 0, .int 0, .int 0, .int 0, .null, .null]) (v := .ref q0) (show i < _ from hi) (by decide) (((uE_n (fun z => absurd z.1 (by decide))).trans (hE))) tw_fl_X2_9 rfl rfl rfl rfl (Nat.le_of_ble_eq_true rfl) dX2_init_9 ?_
  refine g_aload_n hB 0 dX2_init_12 rfl rfl ?_
  refine g_sipush hB (nI 132) dX2_init_13 rfl ?_
  refine g_newa hB 8 i 132 h8 (by decide) dX2_init_16 ⟨Nat.le_of_ble_eq_true rfl, Nat.le_of_ble_eq_true rfl⟩ (fun q1 => ?_)
  refine g_putF hB hnm (ci := 2) (T := TX2) (N := 6) in_X2 rfl tyX2 tyX2_ok nmX2 6 i 5 (fs := [.int 0, .int 0, .int 0, .int 0, .ref q0, .null]) (v := .ref q1) (show i < _ from hi) (by decide) (((uE_n (fun z => absurd z.1 (by decide))).trans (uE_s))) tw_fl_X2_15 rfl rfl rfl rfl (Nat.le_of_ble_eq_true rfl) dX2_init_18 ?_
  refine g_aload_n hB 0 dX2_init_21 rfl rfl ?_
  refine g_iload_n hB 1 dX2_init_22 rfl rfl ?_
  refine g_putF hB hnm (ci := 2) (T := TX2) (N := 6) in_X2 rfl tyX2 tyX2_ok nmX2 6 i 0 (fs := [.int 0, .int 0, .int 0, .int 0, .ref q0, .ref q1]) (v := .int (nI own)) (show i < _ from hi) (by decide) (uE_s) tw_fl_X2_18 rfl rfl rfl rfl (Nat.le_of_ble_eq_true rfl) dX2_init_23 ?_
  refine g_aload_n hB 0 dX2_init_26 rfl rfl ?_
  refine g_get hB (ci := 2) (T := TX2) (N := 6) in_X2 rfl 6 i 5 (fs := [.int (nI own), .int 0, .int 0, .int 0, .ref q0, .ref q1]) (v := .ref q1) (show i < _ from hi) (by decide) (uE_s) tw_fl_X2_15 rfl dX2_init_27 ?_
  refine g_iconst hB (-1) dX2_init_30 rfl ?_
  refine g_callSV hB (c_fill _ _ 8 i 132 (fun _ => 0) (-1) (show i < i + 1 by omega) (((uE_n (fun z => absurd z.1 (by decide))).trans ((uE_n (fun z => absurd z.1 (by decide))).trans (uE_s)))) (by decide)) k_X2_22 yk_J7_fill_53178 ⟨Nat.le_of_ble_eq_true rfl, Nat.le_of_ble_eq_true rfl⟩ (rest := []) (congrArg (fun q => [Value.int (-1), Value.ref q]) ((adU_s)).symm) (Nat.le_of_ble_eq_true rfl) ⟨Nat.le_of_ble_eq_true rfl, Nat.le_of_ble_eq_true rfl⟩ dX2_init_31 ?_
  rintro _ rfl
  exact g_nret hB hr (Nat.le_of_ble_eq_true rfl) (Nat.le_of_ble_eq_true rfl) ⟨q0, q1, rfl, by
      funext a b
      unfold uE
      by_cases g6_i : a = 6 ∧ b = i
      · have g7_i : ¬ (a = 7 ∧ b = i) := fun z => by omega
        have g8_i : ¬ (a = 8 ∧ b = i) := fun z => by omega
        simp only [if_pos g6_i, if_neg g7_i, if_neg g8_i]; try rfl
      · by_cases g7_i : a = 7 ∧ b = i
        · have g8_i : ¬ (a = 8 ∧ b = i) := fun z => by omega
          simp only [if_neg g6_i, if_pos g7_i, if_neg g8_i]; try rfl
        · by_cases g8_i : a = 8 ∧ b = i
          · simp only [if_neg g6_i, if_neg g7_i, if_pos g8_i]; try rfl
          · simp only [if_neg g6_i, if_neg g7_i, if_neg g8_i]; try rfl⟩ dX2_init_34

theorem c_X0_init (cn : Nat → Nat) (E : Rl) (i : Nat) (hi : i < cn 9) (h10 : cn 10 = i) (h11 : cn 11 = i) (hE : E 9 i = .inr (0, [.int 0, .int 0, .int 0, .int 0, .int 0, .int 0, .null, .null])) : CN l yX0_init cX0_init 1 { frames := 2, cells := 2, slots := 16, locals := 40 } D ad cn ca SR E [.ref (ad 9 i)] (cnU (cnU cn 10 (i + 1)) 11 (i + 1)) (fun ad' E' => ∃ q0, ∃ q1, ad' = (adU (adU ad 10 i q0) 11 i q1) ∧ E' = (uE (uE (uE E 10 i (.inl (ca 0, 8, .inl (fun _ => 0)))) 11 i (.inl (ca 0, 8, .inl (ovl (fun _ => 0) 0 8 (fun _ => -1))))) 9 i (.inr (0, [.int 0, .int 0, .int 0, .int 0, .int (nI 0), .int 0, .ref q0, .ref q1])))) := by
  refine CN.of _ RX0 (by decide +kernel) rfl (Nat.le_of_ble_eq_true rfl) ?_
  intro p9 e9 s9 m9 a9 b9 me9 c9 A9 hB hr hnm
  refine g_aload_n hB 0 dX0_init_0 rfl rfl ?_
  refine g_oinit hB tw_ml_X0_3 tw_im_objInit tw_code_objInit dX0_init_1 ⟨Nat.le_of_ble_eq_true rfl, Nat.le_of_ble_eq_true rfl⟩ ?_
  refine g_aload_n hB 0 dX0_init_4 rfl rfl ?_
  refine g_iconst hB (nI 0) dX0_init_5 rfl ?_
  refine g_put hB (ci := 0) (T := TX0) (N := 8) in_X0 rfl tyX0 tyX0_ok nmX0 9 i 4 (fs := [.int 0, .int 0, .int 0, .int 0, .int 0, .int 0, .null, .null]) (v := .int (nI 0)) (show i < _ from hi) (by decide) (hE) tw_fl_X0_9 rfl rfl rfl (Nat.le_of_ble_eq_true rfl) dX0_init_6 ?_
  refine g_aload_n hB 0 dX0_init_9 rfl rfl ?_
  refine g_bipush hB (nI 8) dX0_init_10 rfl ?_
  refine g_newa hB 10 i 8 h10 (by decide) dX0_init_12 ⟨Nat.le_of_ble_eq_true rfl, Nat.le_of_ble_eq_true rfl⟩ (fun q0 => ?_)
  refine g_putF hB hnm (ci := 0) (T := TX0) (N := 8) in_X0 rfl tyX0 tyX0_ok nmX0 9 i 6 (fs := [.int 0, .int 0, .int 0, .int 0, .int (nI 0), .int 0, .null, .null]) (v := .ref q0) (show i < _ from hi) (by decide) (((uE_n (fun z => absurd z.1 (by decide))).trans (uE_s))) tw_fl_X0_15 rfl rfl rfl rfl (Nat.le_of_ble_eq_true rfl) dX0_init_14 ?_
  refine g_aload_n hB 0 dX0_init_17 rfl rfl ?_
  refine g_bipush hB (nI 8) dX0_init_18 rfl ?_
  refine g_newa hB 11 i 8 h11 (by decide) dX0_init_20 ⟨Nat.le_of_ble_eq_true rfl, Nat.le_of_ble_eq_true rfl⟩ (fun q1 => ?_)
  refine g_putF hB hnm (ci := 0) (T := TX0) (N := 8) in_X0 rfl tyX0 tyX0_ok nmX0 9 i 7 (fs := [.int 0, .int 0, .int 0, .int 0, .int (nI 0), .int 0, .ref q0, .null]) (v := .ref q1) (show i < _ from hi) (by decide) (((uE_n (fun z => absurd z.1 (by decide))).trans (uE_s))) tw_fl_X0_19 rfl rfl rfl rfl (Nat.le_of_ble_eq_true rfl) dX0_init_22 ?_
  refine g_aload_n hB 0 dX0_init_25 rfl rfl ?_
  refine g_get hB (ci := 0) (T := TX0) (N := 8) in_X0 rfl 9 i 7 (fs := [.int 0, .int 0, .int 0, .int 0, .int (nI 0), .int 0, .ref q0, .ref q1]) (v := .ref q1) (show i < _ from hi) (by decide) (uE_s) tw_fl_X0_19 rfl dX0_init_26 ?_
  refine g_iconst hB (-1) dX0_init_29 rfl ?_
  refine g_callSV hB (c_fill _ _ 11 i 8 (fun _ => 0) (-1) (show i < i + 1 by omega) (((uE_n (fun z => absurd z.1 (by decide))).trans (uE_s))) (by decide)) k_X0_22 yk_J7_fill_53178 ⟨Nat.le_of_ble_eq_true rfl, Nat.le_of_ble_eq_true rfl⟩ (rest := []) (congrArg (fun q => [Value.int (-1), Value.ref q]) ((adU_s)).symm) (Nat.le_of_ble_eq_true rfl) ⟨Nat.le_of_ble_eq_true rfl, Nat.le_of_ble_eq_true rfl⟩ dX0_init_30 ?_
  rintro _ rfl
  exact g_nret hB hr (Nat.le_of_ble_eq_true rfl) (Nat.le_of_ble_eq_true rfl) ⟨q0, q1, rfl, by
      funext a b
      unfold uE
      by_cases g9_i : a = 9 ∧ b = i
      · have g10_i : ¬ (a = 10 ∧ b = i) := fun z => by omega
        have g11_i : ¬ (a = 11 ∧ b = i) := fun z => by omega
        simp only [if_pos g9_i, if_neg g10_i, if_neg g11_i]; try rfl
      · by_cases g10_i : a = 10 ∧ b = i
        · have g11_i : ¬ (a = 11 ∧ b = i) := fun z => by omega
          simp only [if_neg g9_i, if_pos g10_i, if_neg g11_i]; try rfl
        · by_cases g11_i : a = 11 ∧ b = i
          · simp only [if_neg g9_i, if_neg g10_i, if_pos g11_i]; try rfl
          · simp only [if_neg g9_i, if_neg g10_i, if_neg g11_i]; try rfl⟩ dX0_init_33

theorem c_X1_init (cn : Nat → Nat) (E : Rl) (i : Nat) (hi : i < cn 12) (h13 : cn 13 = i) (h14 : cn 14 = i) (hE : E 12 i = .inr (1, [.null, .null])) : CN l yX1_init cX1_init 1 { frames := 2, cells := 2, slots := 172, locals := 40 } D ad cn ca SR E [.ref (ad 12 i)] (cnU (cnU cn 13 (i + 1)) 14 (i + 1)) (fun ad' E' => ∃ q0, ∃ q1, ad' = (adU (adU ad 13 i q0) 14 i q1) ∧ E' = (uE (uE (uE E 13 i (.inl (ca 0, 132, .inl (ovl (fun _ => 0) 0 132 (fun _ => -1))))) 14 i (.inl (ca 0, 40, .inl (ovl (fun _ => 0) 0 40 (fun _ => -1))))) 12 i (.inr (1, [.ref q0, .ref q1])))) := by
  refine CN.of _ RX1 (by decide +kernel) rfl (Nat.le_of_ble_eq_true rfl) ?_
  intro p9 e9 s9 m9 a9 b9 me9 c9 A9 hB hr hnm
  refine g_aload_n hB 0 dX1_init_0 rfl rfl ?_
  refine g_oinit hB tw_ml_X1_3 tw_im_objInit tw_code_objInit dX1_init_1 ⟨Nat.le_of_ble_eq_true rfl, Nat.le_of_ble_eq_true rfl⟩ ?_
  refine g_aload_n hB 0 dX1_init_4 rfl rfl ?_
  refine g_sipush hB (nI 132) dX1_init_5 rfl ?_
  refine g_newa hB 13 i 132 h13 (by decide) dX1_init_8 ⟨Nat.le_of_ble_eq_true rfl, Nat.le_of_ble_eq_true rfl⟩ (fun q0 => ?_)
  refine g_putF hB hnm (ci := 1) (T := TX1) (N := 2) in_X1 rfl tyX1 tyX1_ok nmX1 12 i 0 (fs := [.null, .null]) (v := .ref q0) (show i < _ from hi) (by decide) (((uE_n (fun z => absurd z.1 (by decide))).trans (hE))) tw_fl_X1_9 rfl rfl rfl rfl (Nat.le_of_ble_eq_true rfl) dX1_init_10 ?_
  refine g_aload_n hB 0 dX1_init_13 rfl rfl ?_
  refine g_bipush hB (nI 40) dX1_init_14 rfl ?_
  refine g_newa hB 14 i 40 h14 (by decide) dX1_init_16 ⟨Nat.le_of_ble_eq_true rfl, Nat.le_of_ble_eq_true rfl⟩ (fun q1 => ?_)
  refine g_putF hB hnm (ci := 1) (T := TX1) (N := 2) in_X1 rfl tyX1 tyX1_ok nmX1 12 i 1 (fs := [.ref q0, .null]) (v := .ref q1) (show i < _ from hi) (by decide) (((uE_n (fun z => absurd z.1 (by decide))).trans (uE_s))) tw_fl_X1_15 rfl rfl rfl rfl (Nat.le_of_ble_eq_true rfl) dX1_init_18 ?_
  refine g_aload_n hB 0 dX1_init_21 rfl rfl ?_
  refine g_get hB (ci := 1) (T := TX1) (N := 2) in_X1 rfl 12 i 0 (fs := [.ref q0, .ref q1]) (v := .ref q0) (show i < _ from hi) (by decide) (uE_s) tw_fl_X1_9 rfl dX1_init_22 ?_
  refine g_iconst hB (-1) dX1_init_25 rfl ?_
  refine g_callSV hB (c_fill _ _ 13 i 132 (fun _ => 0) (-1) (show i < i + 1 by omega) (((uE_n (fun z => absurd z.1 (by decide))).trans ((uE_n (fun z => absurd z.1 (by decide))).trans ((uE_n (fun z => absurd z.1 (by decide))).trans (uE_s))))) (by decide)) k_X1_18 yk_J7_fill_53178 ⟨Nat.le_of_ble_eq_true rfl, Nat.le_of_ble_eq_true rfl⟩ (rest := []) (congrArg (fun q => [Value.int (-1), Value.ref q]) (((adU_n (fun z => absurd z.1 (by decide))).trans (adU_s))).symm) (Nat.le_of_ble_eq_true rfl) ⟨Nat.le_of_ble_eq_true rfl, Nat.le_of_ble_eq_true rfl⟩ dX1_init_26 ?_
  rintro _ rfl
  refine g_aload_n hB 0 dX1_init_29 rfl rfl ?_
  refine g_get hB (ci := 1) (T := TX1) (N := 2) in_X1 rfl 12 i 1 (fs := [.ref q0, .ref q1]) (v := .ref q1) (show i < _ from hi) (by decide) (((uE_n (fun z => absurd z.1 (by decide))).trans (uE_s))) tw_fl_X1_15 rfl dX1_init_30 ?_
  refine g_iconst hB (-1) dX1_init_33 rfl ?_
  refine g_callSV hB (c_fill _ _ 14 i 40 (fun _ => 0) (-1) (show i < i + 1 by omega) (((uE_n (fun z => absurd z.1 (by decide))).trans ((uE_n (fun z => absurd z.1 (by decide))).trans (uE_s)))) (by decide)) k_X1_18 yk_J7_fill_53178 ⟨Nat.le_of_ble_eq_true rfl, Nat.le_of_ble_eq_true rfl⟩ (rest := []) (congrArg (fun q => [Value.int (-1), Value.ref q]) ((adU_s)).symm) (Nat.le_of_ble_eq_true rfl) ⟨Nat.le_of_ble_eq_true rfl, Nat.le_of_ble_eq_true rfl⟩ dX1_init_34 ?_
  rintro _ rfl
  exact g_nret hB hr (Nat.le_of_ble_eq_true rfl) (Nat.le_of_ble_eq_true rfl) ⟨q0, q1, rfl, by
      funext a b
      unfold uE
      by_cases g12_i : a = 12 ∧ b = i
      · have g13_i : ¬ (a = 13 ∧ b = i) := fun z => by omega
        have g14_i : ¬ (a = 14 ∧ b = i) := fun z => by omega
        simp only [if_pos g12_i, if_neg g13_i, if_neg g14_i]; try rfl
      · by_cases g13_i : a = 13 ∧ b = i
        · have g14_i : ¬ (a = 14 ∧ b = i) := fun z => by omega
          simp only [if_neg g12_i, if_pos g13_i, if_neg g14_i]; try rfl
        · by_cases g14_i : a = 14 ∧ b = i
          · simp only [if_neg g12_i, if_neg g13_i, if_pos g14_i]; try rfl
          · simp only [if_neg g12_i, if_neg g13_i, if_neg g14_i]; try rfl⟩ dX1_init_37

theorem c_X3_init (cn : Nat → Nat) (E : Rl) (hi : 0 < cn 15) (h16 : cn 16 = 0) (hE : E 15 0 = .inr (3, [.null, .null, .null, .int 0])) : CN l yX3_init cX3_init 1 { frames := 2, cells := 3, slots := 18, locals := 40 } D ad cn ca SR E [.ref (ad 15 0)] (cnU (cnU (cnU cn 16 (0 + 1)) 16 (1 + 1)) 16 (2 + 1)) (fun ad' E' => ∃ q0, ∃ q1, ∃ q2, ad' = (adU (adU (adU ad 16 0 q0) 16 1 q1) 16 2 q2) ∧ E' = (uE (uE (uE (uE E 16 0 (.inl (ca 0, 6, .inl (fun _ => 0)))) 16 1 (.inl (ca 0, 6, .inl (fun _ => 0)))) 16 2 (.inl (ca 0, 6, .inl (fun _ => 0)))) 15 0 (.inr (3, [.ref q0, .ref q1, .ref q2, .int 0])))) := by
  refine CN.of _ RX3 (by decide +kernel) rfl (Nat.le_of_ble_eq_true rfl) ?_
  intro p9 e9 s9 m9 a9 b9 me9 c9 A9 hB hr hnm
  refine g_aload_n hB 0 dX3_init_0 rfl rfl ?_
  refine g_oinit hB tw_ml_X3_3 tw_im_objInit tw_code_objInit dX3_init_1 ⟨Nat.le_of_ble_eq_true rfl, Nat.le_of_ble_eq_true rfl⟩ ?_
  refine g_aload_n hB 0 dX3_init_4 rfl rfl ?_
  refine g_bipush hB (nI 6) dX3_init_5 rfl ?_
  refine g_newa hB 16 0 6 h16 (by decide) dX3_init_7 ⟨Nat.le_of_ble_eq_true rfl, Nat.le_of_ble_eq_true rfl⟩ (fun q0 => ?_)
  refine g_putF hB hnm (ci := 3) (T := TX3) (N := 4) in_X3 rfl tyX3 tyX3_ok nmX3 15 0 0 (fs := [.null, .null, .null, .int 0]) (v := .ref q0) (show 0 < _ from hi) (by decide) (((uE_n (fun z => absurd z.1 (by decide))).trans (hE))) tw_fl_X3_9 rfl rfl rfl rfl (Nat.le_of_ble_eq_true rfl) dX3_init_9 ?_
  refine g_aload_n hB 0 dX3_init_12 rfl rfl ?_
  refine g_bipush hB (nI 6) dX3_init_13 rfl ?_
  refine g_newa hB 16 1 6 rfl (by decide) dX3_init_15 ⟨Nat.le_of_ble_eq_true rfl, Nat.le_of_ble_eq_true rfl⟩ (fun q1 => ?_)
  refine g_putF hB hnm (ci := 3) (T := TX3) (N := 4) in_X3 rfl tyX3 tyX3_ok nmX3 15 0 1 (fs := [.ref q0, .null, .null, .int 0]) (v := .ref q1) (show 0 < _ from hi) (by decide) (((uE_n (fun z => absurd z.1 (by decide))).trans (uE_s))) tw_fl_X3_15 rfl rfl rfl rfl (Nat.le_of_ble_eq_true rfl) dX3_init_17 ?_
  refine g_aload_n hB 0 dX3_init_20 rfl rfl ?_
  refine g_bipush hB (nI 6) dX3_init_21 rfl ?_
  refine g_newa hB 16 2 6 rfl (by decide) dX3_init_23 ⟨Nat.le_of_ble_eq_true rfl, Nat.le_of_ble_eq_true rfl⟩ (fun q2 => ?_)
  refine g_putF hB hnm (ci := 3) (T := TX3) (N := 4) in_X3 rfl tyX3 tyX3_ok nmX3 15 0 2 (fs := [.ref q0, .ref q1, .null, .int 0]) (v := .ref q2) (show 0 < _ from hi) (by decide) (((uE_n (fun z => absurd z.1 (by decide))).trans (uE_s))) tw_fl_X3_18 rfl rfl rfl rfl (Nat.le_of_ble_eq_true rfl) dX3_init_25 ?_
  exact g_nret hB hr (Nat.le_of_ble_eq_true rfl) (Nat.le_of_ble_eq_true rfl) ⟨q0, q1, q2, rfl, by
      funext a b
      unfold uE
      by_cases g15_0 : a = 15 ∧ b = 0
      · have g16_0 : ¬ (a = 16 ∧ b = 0) := fun z => by omega
        have g16_1 : ¬ (a = 16 ∧ b = 1) := fun z => by omega
        have g16_2 : ¬ (a = 16 ∧ b = 2) := fun z => by omega
        simp only [if_pos g15_0, if_neg g16_0, if_neg g16_1, if_neg g16_2]; try rfl
      · by_cases g16_0 : a = 16 ∧ b = 0
        · have g16_1 : ¬ (a = 16 ∧ b = 1) := fun z => by omega
          have g16_2 : ¬ (a = 16 ∧ b = 2) := fun z => by omega
          simp only [if_neg g15_0, if_pos g16_0, if_neg g16_1, if_neg g16_2]; try rfl
        · by_cases g16_1 : a = 16 ∧ b = 1
          · have g16_2 : ¬ (a = 16 ∧ b = 2) := fun z => by omega
            simp only [if_neg g15_0, if_neg g16_0, if_pos g16_1, if_neg g16_2]; try rfl
          · by_cases g16_2 : a = 16 ∧ b = 2
            · simp only [if_neg g15_0, if_neg g16_0, if_neg g16_1, if_pos g16_2]; try rfl
            · simp only [if_neg g15_0, if_neg g16_0, if_neg g16_1, if_neg g16_2]; try rfl⟩ dX3_init_28

end X10
