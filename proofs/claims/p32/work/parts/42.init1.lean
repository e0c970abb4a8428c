/-! constructors of the class's parts -/
section X10
variable {l : Launch} {D : va_G} {ad : Nat → Nat → Nat} {ca : Nat → ClassId} {SR : List (String × Nat × String)}

theorem df_X9 : ∀ j, j < 1 → defaultValue (tyX9 j) = vp_V [.null] j := by decide +kernel
theorem c_X4_init (cn : Nat → Nat) (E : Rl) (i : Nat) (hi : i < cn 5) (hE : E 5 i = .inr (4, [.int 0, .int 0, .int 0, .int 0])) : CN l yX4_init cX4_init 1 { frames := 2, cells := 0, slots := 0, locals := 40 } D ad cn ca SR E [.ref (ad 5 i)] cn (fun ad' E' => ad' = ad ∧ E' = (uE E 5 i (.inr (4, [.int (nI 1), .int 0, .int 0, .int 0])))) := by
  refine CN.of _ RX4 (by decide +kernel) rfl (Nat.le_of_ble_eq_true rfl) ?_
  intro p9 e9 s9 m9 a9 b9 me9 c9 A9 hB hr hnm
  refine g_aload_n hB 0 dX4_init_0 rfl rfl ?_
  refine g_oinit hB tw_ml_X4_3 tw_im_objInit tw_code_objInit dX4_init_1 ⟨Nat.le_of_ble_eq_true rfl, Nat.le_of_ble_eq_true rfl⟩ ?_
  refine g_aload_n hB 0 dX4_init_4 rfl rfl ?_
  refine g_iconst hB (nI 1) dX4_init_5 rfl ?_
  refine g_put hB (ci := 4) (T := TX4) (N := 4) in_X4 rfl tyX4 tyX4_ok nmX4 5 i 0 (fs := [.int 0, .int 0, .int 0, .int 0]) (v := .int (nI 1)) (show i < _ from hi) (by decide) (hE) tw_fl_X4_9 rfl rfl rfl (Nat.le_of_ble_eq_true rfl) dX4_init_6 ?_
  exact g_nret hB hr (Nat.le_of_ble_eq_true rfl) (Nat.le_of_ble_eq_true rfl) ⟨rfl, by
      funext a b
      unfold uE
      by_cases g5_i : a = 5 ∧ b = i
      · simp only [if_pos g5_i]; try rfl
      · simp only [if_neg g5_i]; try rfl⟩ dX4_init_9

theorem c_X9_init8 (cn : Nat → Nat) (E : Rl) (i : Nat) (hi : i < cn 20) (h8 : cn 8 = i) (hE : E 20 i = .inr (6, [.null])) : CN l yX9_init cX9_init 1 { frames := 2, cells := 1, slots := 132, locals := 40 } D ad cn ca SR E [.ref (ad 20 i)] (cnU cn 8 (i + 1)) (fun ad' E' => ∃ q0, ad' = (adU ad 8 i q0) ∧ E' = (uE (uE E 8 i (.inl (ca 0, 132, .inl (ovl (fun _ => 0) 0 132 (fun _ => -1))))) 20 i (.inr (6, [.ref q0])))) := by
  refine CN.of _ RX9 (by decide +kernel) rfl (Nat.le_of_ble_eq_true rfl) ?_
  intro p9 e9 s9 m9 a9 b9 me9 c9 A9 hB hr hnm
  refine g_aload_n hB 0 dX9_init_0 rfl rfl ?_
  refine g_oinit hB tw_ml_X9_3 tw_im_objInit tw_code_objInit dX9_init_1 ⟨Nat.le_of_ble_eq_true rfl, Nat.le_of_ble_eq_true rfl⟩ ?_
  refine g_aload_n hB 0 dX9_init_4 rfl rfl ?_
  refine g_sipush hB (nI 132) dX9_init_5 rfl ?_
  refine g_newa hB 8 i 132 h8 (by decide) dX9_init_8 ⟨Nat.le_of_ble_eq_true rfl, Nat.le_of_ble_eq_true rfl⟩ (fun q0 => ?_)
  refine g_putF hB hnm (ci := 6) (T := TX9) (N := 1) in_X9 rfl tyX9 tyX9_ok nmX9 20 i 0 (fs := [.null]) (v := .ref q0) (show i < _ from hi) (by decide) (((uE_n (fun z => absurd z.1 (by decide))).trans (hE))) tw_fl_X9_9 rfl rfl rfl rfl (Nat.le_of_ble_eq_true rfl) dX9_init_10 ?_
  refine g_aload_n hB 0 dX9_init_13 rfl rfl ?_
  refine g_get hB (ci := 6) (T := TX9) (N := 1) in_X9 rfl 20 i 0 (fs := [.ref q0]) (v := .ref q0) (show i < _ from hi) (by decide) (uE_s) tw_fl_X9_9 rfl dX9_init_14 ?_
  refine g_iconst hB (-1) dX9_init_17 rfl ?_
  refine g_callSV hB (c_fill _ _ 8 i 132 (fun _ => 0) (-1) (show i < i + 1 by omega) (((uE_n (fun z => absurd z.1 (by decide))).trans (uE_s))) (by decide)) k_X9_15 yk_J7_fill_53178 ⟨Nat.le_of_ble_eq_true rfl, Nat.le_of_ble_eq_true rfl⟩ (rest := []) (congrArg (fun q => [Value.int (-1), Value.ref q]) ((adU_s)).symm) (Nat.le_of_ble_eq_true rfl) ⟨Nat.le_of_ble_eq_true rfl, Nat.le_of_ble_eq_true rfl⟩ dX9_init_18 ?_
  rintro _ rfl
  exact g_nret hB hr (Nat.le_of_ble_eq_true rfl) (Nat.le_of_ble_eq_true rfl) ⟨q0, rfl, by
      funext a b
      unfold uE
      by_cases g8_i : a = 8 ∧ b = i
      · have g20_i : ¬ (a = 20 ∧ b = i) := fun z => by omega
        simp only [if_pos g8_i, if_neg g20_i]; try rfl
      · by_cases g20_i : a = 20 ∧ b = i
        · simp only [if_neg g8_i, if_pos g20_i]; try rfl
        · simp only [if_neg g8_i, if_neg g20_i]; try rfl⟩ dX9_init_21

theorem c_X9_init13 (cn : Nat → Nat) (E : Rl) (i : Nat) (hi : i < cn 21) (h13 : cn 13 = i) (hE : E 21 i = .inr (6, [.null])) : CN l yX9_init cX9_init 1 { frames := 2, cells := 1, slots := 132, locals := 40 } D ad cn ca SR E [.ref (ad 21 i)] (cnU cn 13 (i + 1)) (fun ad' E' => ∃ q0, ad' = (adU ad 13 i q0) ∧ E' = (uE (uE E 13 i (.inl (ca 0, 132, .inl (ovl (fun _ => 0) 0 132 (fun _ => -1))))) 21 i (.inr (6, [.ref q0])))) := by
  refine CN.of _ RX9 (by decide +kernel) rfl (Nat.le_of_ble_eq_true rfl) ?_
  intro p9 e9 s9 m9 a9 b9 me9 c9 A9 hB hr hnm
  refine g_aload_n hB 0 dX9_init_0 rfl rfl ?_
  refine g_oinit hB tw_ml_X9_3 tw_im_objInit tw_code_objInit dX9_init_1 ⟨Nat.le_of_ble_eq_true rfl, Nat.le_of_ble_eq_true rfl⟩ ?_
  refine g_aload_n hB 0 dX9_init_4 rfl rfl ?_
  refine g_sipush hB (nI 132) dX9_init_5 rfl ?_
  refine g_newa hB 13 i 132 h13 (by decide) dX9_init_8 ⟨Nat.le_of_ble_eq_true rfl, Nat.le_of_ble_eq_true rfl⟩ (fun q0 => ?_)
  refine g_putF hB hnm (ci := 6) (T := TX9) (N := 1) in_X9 rfl tyX9 tyX9_ok nmX9 21 i 0 (fs := [.null]) (v := .ref q0) (show i < _ from hi) (by decide) (((uE_n (fun z => absurd z.1 (by decide))).trans (hE))) tw_fl_X9_9 rfl rfl rfl rfl (Nat.le_of_ble_eq_true rfl) dX9_init_10 ?_
  refine g_aload_n hB 0 dX9_init_13 rfl rfl ?_
  refine g_get hB (ci := 6) (T := TX9) (N := 1) in_X9 rfl 21 i 0 (fs := [.ref q0]) (v := .ref q0) (show i < _ from hi) (by decide) (uE_s) tw_fl_X9_9 rfl dX9_init_14 ?_
  refine g_iconst hB (-1) dX9_init_17 rfl ?_
  refine g_callSV hB (c_fill _ _ 13 i 132 (fun _ => 0) (-1) (show i < i + 1 by omega) (((uE_n (fun z => absurd z.1 (by decide))).trans (uE_s))) (by decide)) k_X9_15 yk_J7_fill_53178 ⟨Nat.le_of_ble_eq_true rfl, Nat.le_of_ble_eq_true rfl⟩ (rest := []) (congrArg (fun q => [Value.int (-1), Value.ref q]) ((adU_s)).symm) (Nat.le_of_ble_eq_true rfl) ⟨Nat.le_of_ble_eq_true rfl, Nat.le_of_ble_eq_true rfl⟩ dX9_init_18 ?_
  rintro _ rfl
  exact g_nret hB hr (Nat.le_of_ble_eq_true rfl) (Nat.le_of_ble_eq_true rfl) ⟨q0, rfl, by
      funext a b
      unfold uE
      by_cases g13_i : a = 13 ∧ b = i
      · have g21_i : ¬ (a = 21 ∧ b = i) := fun z => by omega
        simp only [if_pos g13_i, if_neg g21_i]; try rfl
      · by_cases g21_i : a = 21 ∧ b = i
        · simp only [if_neg g13_i, if_pos g21_i]; try rfl
        · simp only [if_neg g13_i, if_neg g21_i]; try rfl⟩ dX9_init_21

theorem c_X2_init (cn : Nat → Nat) (E : Rl) (i : Nat) (own : Nat) (hi : i < cn 6) (h7 : cn 7 = i) (h8 : cn 8 = i) (h20 : cn 20 = i) (hE : E 6 i = .inr (2, [.int 0, .int 0, .int 0, .int 0, .null, .null])) : CN l yX2_init cX2_init 2 { frames := 3, cells := 3, slots := 144, locals := 80 } D ad cn ca SR E [.ref (ad 6 i), .int (nI (own))] (cnU (cnU (cnU cn 20 (i + 1)) 8 (i + 1)) 7 (i + 1)) (fun ad' E' => ∃ q0, ∃ q1, ∃ q2, ad' = (adU (adU (adU ad 20 i q0) 8 i q1) 7 i q2) ∧ E' = (uE (uE (uE (uE E 20 i (.inr (6, [.ref q1]))) 8 i (.inl (ca 0, 132, .inl (ovl (fun _ => 0) 0 132 (fun _ => -1))))) 7 i (.inl (ca 0, 11, .inl (fun _ => 0)))) 6 i (.inr (2, [.int (nI own), .int 0, .int 0, .int 0, .ref q0, .ref q2])))) := by
  refine CN.of _ RX2 (by decide +kernel) rfl (Nat.le_of_ble_eq_true rfl) ?_
  intro p9 e9 s9 m9 a9 b9 me9 c9 A9 hB hr hnm
  refine g_aload_n hB 0 dX2_init_0 rfl rfl ?_
  refine g_oinit hB tw_ml_X2_3 tw_im_objInit tw_code_objInit dX2_init_1 ⟨Nat.le_of_ble_eq_true rfl, Nat.le_of_ble_eq_true rfl⟩ ?_
  refine g_aload_n hB 0 dX2_init_4 rfl rfl ?_
  refine g_newo hB (C := RX9) (T := TX9) (N := 1) (ci := 6) in_X9 rfl tyX9 tyX9_ok 20 i h20 [.null] df_X9 tw_cl_X2_9 tw_ins_X9 tw_ini_X9 dX2_init_5 ⟨Nat.le_of_ble_eq_true rfl, Nat.le_of_ble_eq_true rfl⟩ (fun q0 => ?_)
  refine g_dup hB rfl dX2_init_8 ?_
  refine g_callN hB (c_X9_init8 _ _ i (show i < i + 1 by omega) h8 (uE_s)) (Tw_good (WS_all tw_code_X9_init)) tw_ini_X9 tw_ml_X2_11 tw_im_X9_init rfl yk_X9_init ⟨Nat.le_of_ble_eq_true rfl, Nat.le_of_ble_eq_true rfl⟩ (rest := [.ref q0, .ref ((adU ad 20 i q0) 6 i)]) (congrArg (fun q => Value.ref q :: ([.ref q0, .ref ((adU ad 20 i q0) 6 i)] : List Value)) ((adU_s)).symm) (Nat.le_of_ble_eq_true rfl) ⟨Nat.le_of_ble_eq_true rfl, Nat.le_of_ble_eq_true rfl⟩ dX2_init_9 ?_
  rintro _ _ ⟨q1, rfl, rfl⟩
  refine g_putF hB hnm (ci := 2) (T := TX2) (N := 6) in_X2 rfl tyX2 tyX2_ok nmX2 6 i 4 (fs := [.int 0, .int 0, .int 0, .int 0, .null, .null]) (v := .ref q0) (show i < _ from hi) (by decide) (((uE_n (fun z => absurd z.1 (by decide))).trans ((uE_n (fun z => absurd z.1 (by decide))).trans ((uE_n (fun z => absurd z.1 (by decide))).trans (hE))))) tw_fl_X2_12 rfl rfl rfl rfl (Nat.le_of_ble_eq_true rfl) dX2_init_12 ?_
  refine g_aload_n hB 0 dX2_init_15 rfl rfl ?_
  refine g_bipush hB (nI 11) dX2_init_16 rfl ?_
  refine g_newa hB 7 i 11 h7 (by decide) dX2_init_18 ⟨Nat.le_of_ble_eq_true rfl, Nat.le_of_ble_eq_true rfl⟩ (fun q2 => ?_)
  refine g_putF hB hnm (ci := 2) (T := TX2) (N := 6) in_X2 rfl tyX2 tyX2_ok nmX2 6 i 5 (fs := [.int 0, .int 0, .int 0, .int 0, .ref q0, .null]) (v := .ref q2) (show i < _ from hi) (by decide) (((uE_n (fun z => absurd z.1 (by decide))).trans (uE_s))) tw_fl_X2_18 rfl rfl rfl rfl (Nat.le_of_ble_eq_true rfl) dX2_init_20 ?_
  refine g_aload_n hB 0 dX2_init_23 rfl rfl ?_
  refine g_iload_n hB 1 dX2_init_24 rfl rfl ?_
  refine g_putF hB hnm (ci := 2) (T := TX2) (N := 6) in_X2 rfl tyX2 tyX2_ok nmX2 6 i 0 (fs := [.int 0, .int 0, .int 0, .int 0, .ref q0, .ref q2]) (v := .int (nI own)) (show i < _ from hi) (by decide) (uE_s) tw_fl_X2_22 rfl rfl rfl rfl (Nat.le_of_ble_eq_true rfl) dX2_init_25 ?_
  exact g_nret hB hr (Nat.le_of_ble_eq_true rfl) (Nat.le_of_ble_eq_true rfl) ⟨q0, q1, q2, rfl, by
      funext a b
      unfold uE
      by_cases g6_i : a = 6 ∧ b = i
      · have g7_i : ¬ (a = 7 ∧ b = i) := fun z => by omega
        have g8_i : ¬ (a = 8 ∧ b = i) := fun z => by omega
        have g20_i : ¬ (a = 20 ∧ b = i) := fun z => by omega
        simp only [if_pos g6_i, if_neg g7_i, if_neg g8_i, if_neg g20_i]; try rfl
      · by_cases g7_i : a = 7 ∧ b = i
        · have g8_i : ¬ (a = 8 ∧ b = i) := fun z => by omega
          have g20_i : ¬ (a = 20 ∧ b = i) := fun z => by omega
          simp only [if_neg g6_i, if_pos g7_i, if_neg g8_i, if_neg g20_i]; try rfl
        · by_cases g8_i : a = 8 ∧ b = i
          · have g20_i : ¬ (a = 20 ∧ b = i) := fun z => by omega
            simp only [if_neg g6_i, if_neg g7_i, if_pos g8_i, if_neg g20_i]; try rfl
          · by_cases g20_i : a = 20 ∧ b = i
            · simp only [if_neg g6_i, if_neg g7_i, if_neg g8_i, if_pos g20_i]; try rfl
            · simp only [if_neg g6_i, if_neg g7_i, if_neg g8_i, if_neg g20_i]; try rfl⟩ dX2_init_28

theorem c_X0_init (cn : Nat → Nat) (E : Rl) (i : Nat) (hi : i < cn 9) (h10 : cn 10 = i) (h11 : cn 11 = i) (hE : E 9 i = .inr (0, [.int 0, .int 0, .int 0, .int 0, .int 0, .int 0, .null, .null])) : CN l yX0_init cX0_init 1 { frames := 2, cells := 2, slots := 16, locals := 40 } D ad cn ca SR E [.ref (ad 9 i)] (cnU (cnU cn 10 (i + 1)) 11 (i + 1)) (fun ad' E' => ∃ q0, ∃ q1, ad' = (adU (adU ad 10 i q0) 11 i q1) ∧ E' = (uE (uE (uE E 10 i (.inl (ca 0, 8, .inl (fun _ => 0)))) 11 i (.inl (ca 0, 8, .inl (ovl (fun _ => 0) 0 8 (fun _ => -1))))) 9 i (.inr (0, [.int 0, .int 0, .int 0, .int 0, .int (nI 0), .int 0, .ref q0, .ref q1])))) := by
  refine CN.of _ RX0 (by decide +kernel) rfl (Nat.le_of_ble_eq_true rfl) ?_
  intro p9 e9 s9 m9 a9 b9 me9 c9 A9 hB hr hnm
  refine g_aload_n hB 0 dX0_init_0 rfl rfl ?_
  refine g_oinit hB tw_ml_X0_3 tw_im_objInit tw_code_objInit dX0_init_1 ⟨Nat.le_of_ble_eq_true rfl, Nat.le_of_ble_eq_true rfl⟩ ?_
  refine g_aload_n hB 0 dX0_init_4 rfl rfl ?_
  refine g_iconst hB (nI 0) dX0_init_5 rfl ?_
  refine g_put hB (ci := 0) (T := TX0) (N := 8) in_X0 rfl tyX0 tyX0_ok nmX0 9 i 4 (fs := [.int 0, .int 0, .int 0, .int 0, .int 0, .int 0, .null, .null]) (v := .int (nI 0)) (show i < _ from hi) (by decide) (hE) tw_fl_X0_9 rfl rfl rfl (Nat.le_of_ble_eq_true rfl) dX0_init_6 ?_
  refine g_aload_n hB 0 dX0_init_9 rfl rfl ?_
  refine g_bipush hB (nI 8) dX0_init_10 rfl ?_
  refine g_newa hB 10 i 8 h10 (by decide) dX0_init_12 ⟨Nat.le_of_ble_eq_true rfl, Nat.le_of_ble_eq_true rfl⟩ (fun q0 => ?_)
  refine g_putF hB hnm (ci := 0) (T := TX0) (N := 8) in_X0 rfl tyX0 tyX0_ok nmX0 9 i 6 (fs := [.int 0, .int 0, .int 0, .int 0, .int (nI 0), .int 0, .null, .null]) (v := .ref q0) (show i < _ from hi) (by decide) (((uE_n (fun z => absurd z.1 (by decide))).trans (uE_s))) tw_fl_X0_15 rfl rfl rfl rfl (Nat.le_of_ble_eq_true rfl) dX0_init_14 ?_
  refine g_aload_n hB 0 dX0_init_17 rfl rfl ?_
  refine g_bipush hB (nI 8) dX0_init_18 rfl ?_
  refine g_newa hB 11 i 8 h11 (by decide) dX0_init_20 ⟨Nat.le_of_ble_eq_true rfl, Nat.le_of_ble_eq_true rfl⟩ (fun q1 => ?_)
  refine g_putF hB hnm (ci := 0) (T := TX0) (N := 8) in_X0 rfl tyX0 tyX0_ok nmX0 9 i 7 (fs := [.int 0, .int 0, .int 0, .int 0, .int (nI 0), .int 0, .ref q0, .null]) (v := .ref q1) (show i < _ from hi) (by decide) (((uE_n (fun z => absurd z.1 (by decide))).trans (uE_s))) tw_fl_X0_19 rfl rfl rfl rfl (Nat.le_of_ble_eq_true rfl) dX0_init_22 ?_
  refine g_aload_n hB 0 dX0_init_25 rfl rfl ?_
  refine g_get hB (ci := 0) (T := TX0) (N := 8) in_X0 rfl 9 i 7 (fs := [.int 0, .int 0, .int 0, .int 0, .int (nI 0), .int 0, .ref q0, .ref q1]) (v := .ref q1) (show i < _ from hi) (by decide) (uE_s) tw_fl_X0_19 rfl dX0_init_26 ?_
  refine g_iconst hB (-1) dX0_init_29 rfl ?_
  refine g_callSV hB (c_fill _ _ 11 i 8 (fun _ => 0) (-1) (show i < i + 1 by omega) (((uE_n (fun z => absurd z.1 (by decide))).trans (uE_s))) (by decide)) k_X0_22 yk_J7_fill_53178 ⟨Nat.le_of_ble_eq_true rfl, Nat.le_of_ble_eq_true rfl⟩ (rest := []) (congrArg (fun q => [Value.int (-1), Value.ref q]) ((adU_s)).symm) (Nat.le_of_ble_eq_true rfl) ⟨Nat.le_of_ble_eq_true rfl, Nat.le_of_ble_eq_true rfl⟩ dX0_init_30 ?_
  rintro _ rfl
  exact g_nret hB hr (Nat.le_of_ble_eq_true rfl) (Nat.le_of_ble_eq_true rfl) ⟨q0, q1, rfl, by
      funext a b
      unfold uE
      by_cases g9_i : a = 9 ∧ b = i
      · have g10_i : ¬ (a = 10 ∧ b = i) := fun z => by omega
        have g11_i : ¬ (a = 11 ∧ b = i) := fun z => by omega
        simp only [if_pos g9_i, if_neg g10_i, if_neg g11_i]; try rfl
      · by_cases g10_i : a = 10 ∧ b = i
        · have g11_i : ¬ (a = 11 ∧ b = i) := fun z => by omega
          simp only [if_neg g9_i, if_pos g10_i, if_neg g11_i]; try rfl
        · by_cases g11_i : a = 11 ∧ b = i
          · simp only [if_neg g9_i, if_neg g10_i, if_pos g11_i]; try rfl
          · simp only [if_neg g9_i, if_neg g10_i, if_neg g11_i]; try rfl⟩ dX0_init_33

theorem c_X1_init (cn : Nat → Nat) (E : Rl) (i : Nat) (hi : i < cn 12) (h13 : cn 13 = i) (h14 : cn 14 = i) (h21 : cn 21 = i) (hE : E 12 i = .inr (1, [.null, .null])) : CN l yX1_init cX1_init 1 { frames := 3, cells := 3, slots := 173, locals := 80 } D ad cn ca SR E [.ref (ad 12 i)] (cnU (cnU (cnU cn 21 (i + 1)) 13 (i + 1)) 14 (i + 1)) (fun ad' E' => ∃ q0, ∃ q1, ∃ q2, ad' = (adU (adU (adU ad 21 i q0) 13 i q1) 14 i q2) ∧ E' = (uE (uE (uE (uE E 21 i (.inr (6, [.ref q1]))) 13 i (.inl (ca 0, 132, .inl (ovl (fun _ => 0) 0 132 (fun _ => -1))))) 14 i (.inl (ca 0, 40, .inl (ovl (fun _ => 0) 0 40 (fun _ => -1))))) 12 i (.inr (1, [.ref q0, .ref q2])))) := by
  refine CN.of _ RX1 (by decide +kernel) rfl (Nat.le_of_ble_eq_true rfl) ?_
  intro p9 e9 s9 m9 a9 b9 me9 c9 A9 hB hr hnm
  refine g_aload_n hB 0 dX1_init_0 rfl rfl ?_
  refine g_oinit hB tw_ml_X1_3 tw_im_objInit tw_code_objInit dX1_init_1 ⟨Nat.le_of_ble_eq_true rfl, Nat.le_of_ble_eq_true rfl⟩ ?_
  refine g_aload_n hB 0 dX1_init_4 rfl rfl ?_
  refine g_newo hB (C := RX9) (T := TX9) (N := 1) (ci := 6) in_X9 rfl tyX9 tyX9_ok 21 i h21 [.null] df_X9 tw_cl_X1_9 tw_ins_X9 tw_ini_X9 dX1_init_5 ⟨Nat.le_of_ble_eq_true rfl, Nat.le_of_ble_eq_true rfl⟩ (fun q0 => ?_)
  refine g_dup hB rfl dX1_init_8 ?_
  refine g_callN hB (c_X9_init13 _ _ i (show i < i + 1 by omega) h13 (uE_s)) (Tw_good (WS_all tw_code_X9_init)) tw_ini_X9 tw_ml_X1_11 tw_im_X9_init rfl yk_X9_init ⟨Nat.le_of_ble_eq_true rfl, Nat.le_of_ble_eq_true rfl⟩ (rest := [.ref q0, .ref ((adU ad 21 i q0) 12 i)]) (congrArg (fun q => Value.ref q :: ([.ref q0, .ref ((adU ad 21 i q0) 12 i)] : List Value)) ((adU_s)).symm) (Nat.le_of_ble_eq_true rfl) ⟨Nat.le_of_ble_eq_true rfl, Nat.le_of_ble_eq_true rfl⟩ dX1_init_9 ?_
  rintro _ _ ⟨q1, rfl, rfl⟩
  refine g_putF hB hnm (ci := 1) (T := TX1) (N := 2) in_X1 rfl tyX1 tyX1_ok nmX1 12 i 0 (fs := [.null, .null]) (v := .ref q0) (show i < _ from hi) (by decide) (((uE_n (fun z => absurd z.1 (by decide))).trans ((uE_n (fun z => absurd z.1 (by decide))).trans ((uE_n (fun z => absurd z.1 (by decide))).trans (hE))))) tw_fl_X1_12 rfl rfl rfl rfl (Nat.le_of_ble_eq_true rfl) dX1_init_12 ?_
  refine g_aload_n hB 0 dX1_init_15 rfl rfl ?_
  refine g_bipush hB (nI 40) dX1_init_16 rfl ?_
  refine g_newa hB 14 i 40 h14 (by decide) dX1_init_18 ⟨Nat.le_of_ble_eq_true rfl, Nat.le_of_ble_eq_true rfl⟩ (fun q2 => ?_)
  refine g_putF hB hnm (ci := 1) (T := TX1) (N := 2) in_X1 rfl tyX1 tyX1_ok nmX1 12 i 1 (fs := [.ref q0, .null]) (v := .ref q2) (show i < _ from hi) (by decide) (((uE_n (fun z => absurd z.1 (by decide))).trans (uE_s))) tw_fl_X1_18 rfl rfl rfl rfl (Nat.le_of_ble_eq_true rfl) dX1_init_20 ?_
  refine g_aload_n hB 0 dX1_init_23 rfl rfl ?_
  refine g_get hB (ci := 1) (T := TX1) (N := 2) in_X1 rfl 12 i 1 (fs := [.ref q0, .ref q2]) (v := .ref q2) (show i < _ from hi) (by decide) (uE_s) tw_fl_X1_18 rfl dX1_init_24 ?_
  refine g_iconst hB (-1) dX1_init_27 rfl ?_
  refine g_callSV hB (c_fill _ _ 14 i 40 (fun _ => 0) (-1) (show i < i + 1 by omega) (((uE_n (fun z => absurd z.1 (by decide))).trans (uE_s))) (by decide)) k_X1_22 yk_J7_fill_53178 ⟨Nat.le_of_ble_eq_true rfl, Nat.le_of_ble_eq_true rfl⟩ (rest := []) (congrArg (fun q => [Value.int (-1), Value.ref q]) ((adU_s)).symm) (Nat.le_of_ble_eq_true rfl) ⟨Nat.le_of_ble_eq_true rfl, Nat.le_of_ble_eq_true rfl⟩ dX1_init_28 ?_
  rintro _ rfl
  exact g_nret hB hr (Nat.le_of_ble_eq_true rfl) (Nat.le_of_ble_eq_true rfl) ⟨q0, q1, q2, rfl, by
      funext a b
      unfold uE
      by_cases g12_i : a = 12 ∧ b = i
      · have g13_i : ¬ (a = 13 ∧ b = i) := fun z => by omega
        have g14_i : ¬ (a = 14 ∧ b = i) := fun z => by omega
        have g21_i : ¬ (a = 21 ∧ b = i) := fun z => by omega
        simp only [if_pos g12_i, if_neg g13_i, if_neg g14_i, if_neg g21_i]; try rfl
      · by_cases g13_i : a = 13 ∧ b = i
        · have g14_i : ¬ (a = 14 ∧ b = i) := fun z => by omega
          have g21_i : ¬ (a = 21 ∧ b = i) := fun z => by omega
          simp only [if_neg g12_i, if_pos g13_i, if_neg g14_i, if_neg g21_i]; try rfl
        · by_cases g14_i : a = 14 ∧ b = i
          · have g21_i : ¬ (a = 21 ∧ b = i) := fun z => by omega
            simp only [if_neg g12_i, if_neg g13_i, if_pos g14_i, if_neg g21_i]; try rfl
          · by_cases g21_i : a = 21 ∧ b = i
            · simp only [if_neg g12_i, if_neg g13_i, if_neg g14_i, if_pos g21_i]; try rfl
            · simp only [if_neg g12_i, if_neg g13_i, if_neg g14_i, if_neg g21_i]; try rfl⟩ dX1_init_31

theorem c_X3_init (cn : Nat → Nat) (E : Rl) (hi : 0 < cn 15) (h16 : cn 16 = 0) (hE : E 15 0 = .inr (3, [.null, .null, .null, .int 0])) : CN l yX3_init cX3_init 1 { frames := 2, cells := 3, slots := 18, locals := 40 } D ad cn ca SR E [.ref (ad 15 0)] (cnU (cnU (cnU cn 16 (0 + 1)) 16 (1 + 1)) 16 (2 + 1)) (fun ad' E' => ∃ q0, ∃ q1, ∃ q2, ad' = (adU (adU (adU ad 16 0 q0) 16 1 q1) 16 2 q2) ∧ E' = (uE (uE (uE (uE E 16 0 (.inl (ca 0, 6, .inl (fun _ => 0)))) 16 1 (.inl (ca 0, 6, .inl (fun _ => 0)))) 16 2 (.inl (ca 0, 6, .inl (fun _ => 0)))) 15 0 (.inr (3, [.ref q0, .ref q1, .ref q2, .int 0])))) := by
  refine CN.of _ RX3 (by decide +kernel) rfl (Nat.le_of_ble_eq_true rfl) ?_
  intro p9 e9 s9 m9 a9 b9 me9 c9 A9 hB hr hnm
  refine g_aload_n hB 0 dX3_init_0 rfl rfl ?_
  refine g_oinit hB tw_ml_X3_3 tw_im_objInit tw_code_objInit dX3_init_1 ⟨Nat.le_of_ble_eq_true rfl, Nat.le_of_ble_eq_true rfl⟩ ?_
  refine g_aload_n hB 0 dX3_init_4 rfl rfl ?_
  refine g_bipush hB (nI 6) dX3_init_5 rfl ?_
  refine g_newa hB 16 0 6 h16 (by decide) dX3_init_7 ⟨Nat.le_of_ble_eq_true rfl, Nat.le_of_ble_eq_true rfl⟩ (fun q0 => ?_)
  refine g_putF hB hnm (ci := 3) (T := TX3) (N := 4) in_X3 rfl tyX3 tyX3_ok nmX3 15 0 0 (fs := [.null, .null, .null, .int 0]) (v := .ref q0) (show 0 < _ from hi) (by decide) (((uE_n (fun z => absurd z.1 (by decide))).trans (hE))) tw_fl_X3_9 rfl rfl rfl rfl (Nat.le_of_ble_eq_true rfl) dX3_init_9 ?_
  refine g_aload_n hB 0 dX3_init_12 rfl rfl ?_
  refine g_bipush hB (nI 6) dX3_init_13 rfl ?_
  refine g_newa hB 16 1 6 rfl (by decide) dX3_init_15 ⟨Nat.le_of_ble_eq_true rfl, Nat.le_of_ble_eq_true rfl⟩ (fun q1 => ?_)
  refine g_putF hB hnm (ci := 3) (T := TX3) (N := 4) in_X3 rfl tyX3 tyX3_ok nmX3 15 0 1 (fs := [.ref q0, .null, .null, .int 0]) (v := .ref q1) (show 0 < _ from hi) (by decide) (((uE_n (fun z => absurd z.1 (by decide))).trans (uE_s))) tw_fl_X3_15 rfl rfl rfl rfl (Nat.le_of_ble_eq_true rfl) dX3_init_17 ?_
  refine g_aload_n hB 0 dX3_init_20 rfl rfl ?_
  refine g_bipush hB (nI 6) dX3_init_21 rfl ?_
  refine g_newa hB 16 2 6 rfl (by decide) dX3_init_23 ⟨Nat.le_of_ble_eq_true rfl, Nat.le_of_ble_eq_true rfl⟩ (fun q2 => ?_)
  refine g_putF hB hnm (ci := 3) (T := TX3) (N := 4) in_X3 rfl tyX3 tyX3_ok nmX3 15 0 2 (fs := [.ref q0, .ref q1, .null, .int 0]) (v := .ref q2) (show 0 < _ from hi) (by decide) (((uE_n (fun z => absurd z.1 (by decide))).trans (uE_s))) tw_fl_X3_18 rfl rfl rfl rfl (Nat.le_of_ble_eq_true rfl) dX3_init_25 ?_
  exact g_nret hB hr (Nat.le_of_ble_eq_true rfl) (Nat.le_of_ble_eq_true rfl) ⟨q0, q1, q2, rfl, by
      funext a b
      unfold uE
      by_cases g15_0 : a = 15 ∧ b = 0
      · have g16_0 : ¬ (a = 16 ∧ b = 0) := fun z => by omega
        have g16_1 : ¬ (a = 16 ∧ b = 1) := fun z => by omega
        have g16_2 : ¬ (a = 16 ∧ b = 2) := fun z => by omega
        simp only [if_pos g15_0, if_neg g16_0, if_neg g16_1, if_neg g16_2]; try rfl
      · by_cases g16_0 : a = 16 ∧ b = 0
        · have g16_1 : ¬ (a = 16 ∧ b = 1) := fun z => by omega
          have g16_2 : ¬ (a = 16 ∧ b = 2) := fun z => by omega
          simp only [if_neg g15_0, if_pos g16_0, if_neg g16_1, if_neg g16_2]; try rfl
        · by_cases g16_1 : a = 16 ∧ b = 1
          · have g16_2 : ¬ (a = 16 ∧ b = 2) := fun z => by omega
            simp only [if_neg g15_0, if_neg g16_0, if_pos g16_1, if_neg g16_2]; try rfl
          · by_cases g16_2 : a = 16 ∧ b = 2
            · simp only [if_neg g15_0, if_neg g16_0, if_neg g16_1, if_pos g16_2]; try rfl
            · simp only [if_neg g15_0, if_neg g16_0, if_neg g16_1, if_neg g16_2]; try rfl⟩ dX3_init_28

end X10
