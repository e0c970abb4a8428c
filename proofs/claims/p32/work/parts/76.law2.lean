/-! the law: good, stopped, lags, decides, hides -/
section L2
variable {l : Launch} {D : va_G} {ad : Nat → Nat → Nat} {ca : Nat → ClassId} {SR : List (String × Nat × String)}
theorem sub53 {c : Nat} : nI (5 * (c + 1)) - nI 3 = nI (5 * c + 2) := by rw [pk_sub (by omega)]; exact congrArg nI (by omega)
theorem sub52 {c : Nat} : nI (5 * (c + 1)) - nI 2 = nI (5 * c + 3) := by rw [pk_sub (by omega)]; exact congrArg nI (by omega)
theorem sub1 {c : Nat} : nI (c + 1) - nI 1 = nI c := by rw [pk_sub (by omega)]; exact congrArg nI (by omega)
theorem pos_S {c : Nat} (h : c < 2 ^ 31 - 1) : ¬ nI (c + 1) ≤ 0 := eg_le h
theorem c_L_good (S : Mem) (c : Nat) (hc : c < 12) : CI l yL_good cL_good 4 (some .int) { frames := 0, cells := 0, slots := 0, locals := 0 } D ad CNT ca SR (SH ad ca S) [.int (nI c), .ref (ad 22 4)] (PR ad ca (nI (cntB (fun p => decide (0 < S 22 4 (5 * c + p))) 5)) S) := by
  refine CI.of _ RL (by decide +kernel) rfl (Nat.le_of_ble_eq_true rfl) ?_
  intro p9 e9 s9 m9 a9 b9 me9 c9 A9 hB hr hnm9
  have loop : ∀ (n p a : Nat), 5 - p < n → p ≤ 5 → a = cntB (fun p => decide (0 < S 22 4 (5 * c + p))) p → G p9 l e9 { frames := 0, cells := 0, slots := 0, locals := 0 } s9 m9 a9 b9 me9 c9 D ad A9 4 (MQ b9 (va_Qi (PR ad ca (nI (cntB (fun p => decide (0 < S 22 4 (5 * c + p))) 5)) S) (fun E' t => WW D ad CNT A9 E' t.heap) A9) a9 s9 0 0 A9) 0 0 CNT (SH ad ca (S)) 4 [(0, .int (nI c)), (1, .ref (ad 22 4)), (2, .int (nI a)), (3, .int (nI p))] [] := by
    intro n
    induction n with
    | zero => intro p a h1; omega
    | succ n ih =>
      intro p a h1 h2 ha
      refine g_iload_n hB 3 dL_good_4 rfl rfl ?_
      refine g_iconst hB (nI 5) dL_good_5 rfl ?_
      refine n_icmp_ge hB p 5 33 dL_good_6 (by decide) (by omega) (by omega) (fun c_6 => ?_) (fun c_6 => ?_)
      · have hk : p = 5 := by omega
        subst hk
        refine g_iload_n hB 2 dL_good_33 rfl rfl ?_
        exact g_iret hB hr rfl (Nat.le_of_ble_eq_true rfl) (Nat.le_of_ble_eq_true rfl) (⟨by rw [ha], rfl⟩) dL_good_34
      · refine g_iload_n hB 2 dL_good_9 rfl rfl ?_
        refine g_aload_n hB 1 dL_good_10 rfl rfl ?_
        refine g_iconst hB (nI 5) dL_good_11 rfl ?_
        refine g_iload_n hB 0 dL_good_12 rfl rfl ?_
        refine g_imul hB dL_good_13 ?_
        refine g_top (nI (5 * c)) (pk_mul _ _) ?_
        refine g_iload_n hB 3 dL_good_14 rfl rfl ?_
        refine g_iadd hB dL_good_15 ?_
        refine g_top (nI (5 * c + p)) (nI_add _ _) ?_
        refine g_iald hB 22 4 (5 * c + p) (n := 60) (by decide) rfl (by first | assumption | omega) (Nat.le_of_ble_eq_true rfl) dL_good_16 ?_
        refine g_if_le hB 24 dL_good_17 (by decide) (fun c_17 => ?_) (fun c_17 => ?_)
        · have e : decide (0 < S 22 4 (5 * c + p)) = false := decide_eq_false (Int32.not_lt.mpr c_17)
          refine g_iconst hB (nI 0) dL_good_24 rfl ?_
          refine g_iadd hB dL_good_25 ?_
          refine g_top (nI (a + 0)) (nI_add _ _) ?_
          refine g_istore_n hB 2 dL_good_26 rfl (by decide) ?_
          refine g_iinc hB (nI (p + 1)) dL_good_27 rfl (nI_1 _) (by decide) ?_
          refine g_goto hB 4 dL_good_30 (by decide) ?_
          exact g_sub _ rfl (ih (p + 1) _ (by omega) (by omega) (by rw [cntB, ← ha, e]; rfl))
        · have e : decide (0 < S 22 4 (5 * c + p)) = true := decide_eq_true (Int32.not_le.mp c_17)
          refine g_iconst hB (nI 1) dL_good_20 rfl ?_
          refine g_goto hB 25 dL_good_21 (by decide) ?_
          refine g_iadd hB dL_good_25 ?_
          refine g_top (nI (a + 1)) (nI_add _ _) ?_
          refine g_istore_n hB 2 dL_good_26 rfl (by decide) ?_
          refine g_iinc hB (nI (p + 1)) dL_good_27 rfl (nI_1 _) (by decide) ?_
          refine g_goto hB 4 dL_good_30 (by decide) ?_
          exact g_sub _ rfl (ih (p + 1) _ (by omega) (by omega) (by rw [cntB, ← ha, e]; rfl))
  refine g_iconst hB (nI 0) dL_good_0 rfl ?_
  refine g_istore_n hB 2 dL_good_1 rfl (by decide) ?_
  refine g_iconst hB (nI 0) dL_good_2 rfl ?_
  refine g_istore_n hB 3 dL_good_3 rfl (by decide) ?_
  exact g_sub _ rfl (loop 6 0 0 (by omega) (by omega) rfl)
theorem c_L_stopped (S : Mem) (ng nm nc t pa rk : Nat) (hL : LR S ng nm nc t pa rk) (hR : RI S ng nm nc t pa) (m : Nat) (hm : m < nm) : CI l yL_stopped cL_stopped 5 (some .boolean) { frames := 0, cells := 0, slots := 0, locals := 0 } D ad CNT ca SR (SH ad ca S) [.int (nI m), .ref (ad 22 2), .ref (ad 22 3)] (PR ad ca (bI (mHalt S m)) S) := by
  have hL0 := hL
  obtain ⟨⟨⟨q0, q1, q2, q3, q4, q5⟩, hng1, hng4, hnm3, hnc12, ht20, hrk20, hpa12⟩, hD, hG, hN, hT, hZ, hC, hCz, hA, hGa, hE⟩ := hL
  rw [halt_20 hL0 (show m < 3 by omega)]
  refine CI.of _ RL (by decide +kernel) rfl (Nat.le_of_ble_eq_true rfl) ?_
  intro p9 e9 s9 m9 a9 b9 me9 c9 A9 hB hr hnm9
  have loop : ∀ (n i : Nat) (b : Bool), 20 - i < n → i ≤ 20 → b = anyB (hlB S m) i → G p9 l e9 { frames := 0, cells := 0, slots := 0, locals := 0 } s9 m9 a9 b9 me9 c9 D ad A9 5 (MQ b9 (va_Qi (PR ad ca (bI (anyB (hlB S m) 20)) S) (fun E' t => WW D ad CNT A9 E' t.heap) A9) a9 s9 0 0 A9) 0 0 CNT (SH ad ca (S)) 8 [(0, .int (nI m)), (1, .ref (ad 22 2)), (2, .ref (ad 22 3)), (3, .int (bI (b))), (4, .int (nI (20 * m + i)))] [] := by
    intro n
    induction n with
    | zero => intro i b h1; omega
    | succ n ih =>
      intro i b h1 h2 hb
      rcases Nat.lt_or_ge i 20 with hi | hi
      · have hx := hT m (by omega) (i / 4) (by omega) (i % 4) (by omega)
        rw [show 20 * m + 4 * (i / 4) + i % 4 = 20 * m + i by omega] at hx
        rcases hx with ⟨x1, x2⟩ | ⟨c, hc, x1, x2⟩
        · have e : hlB S m i = false := by unfold hlB nhB; rw [x1]; rfl
          refine g_iload hB 4 dL_stopped_8 rfl ?_
          refine g_bipush hB (nI 20) dL_stopped_10 rfl ?_
          refine g_iload_n hB 0 dL_stopped_12 rfl rfl ?_
          refine g_imul hB dL_stopped_13 ?_
          refine g_top (nI (20 * m)) (pk_mul _ _) ?_
          refine g_bipush hB (nI 20) dL_stopped_14 rfl ?_
          refine g_iadd hB dL_stopped_16 ?_
          refine g_top (nI (20 * m + 20)) (nI_add _ _) ?_
          refine n_icmp_ge hB (20 * m + i) (20 * m + 20) 57 dL_stopped_17 (by decide) (by omega) (by omega) (fun c_17 => ?_) (fun c_17 => ?_)
          · exact absurd c_17 (by omega)
          · refine g_iload_n hB 3 dL_stopped_20 rfl rfl ?_
            refine b_if_ne hB (b) 45 dL_stopped_21 (by decide) (fun c_21 => ?_) (fun c_21 => ?_)
            · refine g_iconst hB (nI 1) dL_stopped_45 rfl ?_
              refine g_goto hB 50 dL_stopped_46 (by decide) ?_
              refine g_istore_n hB 3 dL_stopped_50 rfl (by decide) ?_
              refine g_iinc hB (nI (20 * m + i + 1)) dL_stopped_51 rfl (nI_1 _) (by decide) ?_
              refine g_goto hB 8 dL_stopped_54 (by decide) ?_
              refine g_sub [(0, .int (nI m)), (1, .ref (ad 22 2)), (2, .ref (ad 22 3)), (3, .int (bI true)), (4, .int (nI (20 * m + (i + 1))))] rfl (ih (i + 1) _ (by omega) (by omega) (by rw [anyB, ← hb, e, c_21]; rfl))
            · refine g_aload_n hB 1 dL_stopped_24 rfl rfl ?_
              refine g_iload hB 4 dL_stopped_25 rfl ?_
              refine g_iald hB 22 2 (20 * m + i) (n := 60) (by decide) rfl (by first | assumption | omega) (Nat.le_of_ble_eq_true rfl) dL_stopped_27 ?_
              refine g_top (nI (0)) (x2) ?_
              refine g_if_le hB 49 dL_stopped_28 (by decide) (fun _ => ?_) (fun z => absurd (by decide) z)
              refine g_iconst hB (nI 0) dL_stopped_49 rfl ?_
              refine g_istore_n hB 3 dL_stopped_50 rfl (by decide) ?_
              refine g_iinc hB (nI (20 * m + i + 1)) dL_stopped_51 rfl (nI_1 _) (by decide) ?_
              refine g_goto hB 8 dL_stopped_54 (by decide) ?_
              refine g_sub [(0, .int (nI m)), (1, .ref (ad 22 2)), (2, .ref (ad 22 3)), (3, .int (bI false)), (4, .int (nI (20 * m + (i + 1))))] rfl (ih (i + 1) _ (by omega) (by omega) (by rw [anyB, ← hb, e, c_21]; rfl))
        · obtain ⟨p', k', w, st, -, -, -, -, -, a6, b1, b2, b3, b4, b5, b6, b7, b8, -⟩ := hC c hc
          have e0 : hlB S m i = decide (nI st ≠ nI 1) := by unfold hlB nhB; rw [x1, nI_clamp (by omega), b8, decide_eq_true (p := nI c ≠ -1) (m1_ne (by omega)), Bool.true_and]
          refine g_iload hB 4 dL_stopped_8 rfl ?_
          refine g_bipush hB (nI 20) dL_stopped_10 rfl ?_
          refine g_iload_n hB 0 dL_stopped_12 rfl rfl ?_
          refine g_imul hB dL_stopped_13 ?_
          refine g_top (nI (20 * m)) (pk_mul _ _) ?_
          refine g_bipush hB (nI 20) dL_stopped_14 rfl ?_
          refine g_iadd hB dL_stopped_16 ?_
          refine g_top (nI (20 * m + 20)) (nI_add _ _) ?_
          refine n_icmp_ge hB (20 * m + i) (20 * m + 20) 57 dL_stopped_17 (by decide) (by omega) (by omega) (fun c_17 => ?_) (fun c_17 => ?_)
          · exact absurd c_17 (by omega)
          · refine g_iload_n hB 3 dL_stopped_20 rfl rfl ?_
            refine b_if_ne hB (b) 45 dL_stopped_21 (by decide) (fun c_21 => ?_) (fun c_21 => ?_)
            · refine g_iconst hB (nI 1) dL_stopped_45 rfl ?_
              refine g_goto hB 50 dL_stopped_46 (by decide) ?_
              refine g_istore_n hB 3 dL_stopped_50 rfl (by decide) ?_
              refine g_iinc hB (nI (20 * m + i + 1)) dL_stopped_51 rfl (nI_1 _) (by decide) ?_
              refine g_goto hB 8 dL_stopped_54 (by decide) ?_
              refine g_sub [(0, .int (nI m)), (1, .ref (ad 22 2)), (2, .ref (ad 22 3)), (3, .int (bI true)), (4, .int (nI (20 * m + (i + 1))))] rfl (ih (i + 1) _ (by omega) (by omega) (by rw [anyB, ← hb, c_21]; rfl))
            · refine g_aload_n hB 1 dL_stopped_24 rfl rfl ?_
              refine g_iload hB 4 dL_stopped_25 rfl ?_
              refine g_iald hB 22 2 (20 * m + i) (n := 60) (by decide) rfl (by first | assumption | omega) (Nat.le_of_ble_eq_true rfl) dL_stopped_27 ?_
              refine g_top (nI (c + 1)) (x2) ?_
              refine g_if_le hB 49 dL_stopped_28 (by decide) (fun c_28 => ?_) (fun c_28 => ?_)
              · exact absurd c_28 (pos_S (by omega))
              · refine g_aload_n hB 2 dL_stopped_31 rfl rfl ?_
                refine g_iconst hB (nI 5) dL_stopped_32 rfl ?_
                refine g_aload_n hB 1 dL_stopped_33 rfl rfl ?_
                refine g_iload hB 4 dL_stopped_34 rfl ?_
                refine g_iald hB 22 2 (20 * m + i) (n := 60) (by decide) rfl (by first | assumption | omega) (Nat.le_of_ble_eq_true rfl) dL_stopped_36 ?_
                refine g_top (nI (c + 1)) (x2) ?_
                refine g_imul hB dL_stopped_37 ?_
                refine g_top (nI (5 * (c + 1))) (pk_mul _ _) ?_
                refine g_iconst hB (nI 2) dL_stopped_38 rfl ?_
                refine g_isub hB dL_stopped_39 ?_
                refine g_top (nI (5 * c + 3)) (sub52) ?_
                refine g_iald hB 22 3 (5 * c + 3) (n := 60) (by decide) rfl (by first | assumption | omega) (Nat.le_of_ble_eq_true rfl) dL_stopped_40 ?_
                refine g_top (nI (st)) (b7) ?_
                refine g_iconst hB (nI 1) dL_stopped_41 rfl ?_
                refine n_icmp_eq hB st 1 49 dL_stopped_42 (by decide) (by omega) (by omega) (fun c_42 => ?_) (fun c_42 => ?_)
                · have d_42 : decide (st = 1) = true := decide_eq_true c_42
                  have e : hlB S m i = false := by rw [e0, c_42]; rfl
                  refine g_iconst hB (nI 0) dL_stopped_49 rfl ?_
                  refine g_istore_n hB 3 dL_stopped_50 rfl (by decide) ?_
                  refine g_iinc hB (nI (20 * m + i + 1)) dL_stopped_51 rfl (nI_1 _) (by decide) ?_
                  refine g_goto hB 8 dL_stopped_54 (by decide) ?_
                  refine g_sub [(0, .int (nI m)), (1, .ref (ad 22 2)), (2, .ref (ad 22 3)), (3, .int (bI false)), (4, .int (nI (20 * m + (i + 1))))] rfl (ih (i + 1) _ (by omega) (by omega) (by rw [anyB, ← hb, e, c_21]; rfl))
                · have d_42 : decide (st = 1) = false := decide_eq_false c_42
                  have e : hlB S m i = true := by rw [e0]; exact decide_eq_true (fun z => c_42 ((nI_eq (by omega) (by omega)).mp z))
                  refine g_iconst hB (nI 1) dL_stopped_45 rfl ?_
                  refine g_goto hB 50 dL_stopped_46 (by decide) ?_
                  refine g_istore_n hB 3 dL_stopped_50 rfl (by decide) ?_
                  refine g_iinc hB (nI (20 * m + i + 1)) dL_stopped_51 rfl (nI_1 _) (by decide) ?_
                  refine g_goto hB 8 dL_stopped_54 (by decide) ?_
                  refine g_sub [(0, .int (nI m)), (1, .ref (ad 22 2)), (2, .ref (ad 22 3)), (3, .int (bI true)), (4, .int (nI (20 * m + (i + 1))))] rfl (ih (i + 1) _ (by omega) (by omega) (by rw [anyB, ← hb, e, c_21]; rfl))
      · have hk : i = 20 := by omega
        subst hk
        refine g_iload hB 4 dL_stopped_8 rfl ?_
        refine g_bipush hB (nI 20) dL_stopped_10 rfl ?_
        refine g_iload_n hB 0 dL_stopped_12 rfl rfl ?_
        refine g_imul hB dL_stopped_13 ?_
        refine g_top (nI (20 * m)) (pk_mul _ _) ?_
        refine g_bipush hB (nI 20) dL_stopped_14 rfl ?_
        refine g_iadd hB dL_stopped_16 ?_
        refine g_top (nI (20 * m + 20)) (nI_add _ _) ?_
        refine n_icmp_ge hB (20 * m + 20) (20 * m + 20) 57 dL_stopped_17 (by decide) (by omega) (by omega) (fun c_17 => ?_) (fun c_17 => ?_)
        · refine g_iload_n hB 3 dL_stopped_57 rfl rfl ?_
          exact g_iret hB hr (nar_b _) (Nat.le_of_ble_eq_true rfl) (Nat.le_of_ble_eq_true rfl) (⟨by rw [hb], rfl⟩) dL_stopped_58
        · exact absurd c_17 (by omega)
  refine g_iconst hB (nI 0) dL_stopped_0 rfl ?_
  refine g_istore_n hB 3 dL_stopped_1 rfl (by decide) ?_
  refine g_bipush hB (nI 20) dL_stopped_2 rfl ?_
  refine g_iload_n hB 0 dL_stopped_4 rfl rfl ?_
  refine g_imul hB dL_stopped_5 ?_
  refine g_top (nI (20 * m)) (pk_mul _ _) ?_
  refine g_istore hB 4 dL_stopped_6 (by decide) ?_
  exact g_sub [(0, .int (nI m)), (1, .ref (ad 22 2)), (2, .ref (ad 22 3)), (3, .int (bI false)), (4, .int (nI (20 * m + 0)))] rfl (loop 21 0 false (by omega) (by omega) rfl)
theorem c_L_lags (S : Mem) (ng nm nc t pa rk : Nat) (hL : LR S ng nm nc t pa rk) (hR : RI S ng nm nc t pa) (m : Nat) (hm : m < nm) (j : Nat) (hj : j < (lay (S 18 2) (grp S m)).length) : CI l yL_lags cL_lags 9 (some .boolean) { frames := 2, cells := 0, slots := 0, locals := 49 } D ad CNT ca SR (SH ad ca S) [.int (nI m), .int (nI j), .ref (ad 22 0), .ref (ad 22 1), .ref (ad 22 2), .ref (ad 22 3)] (PR ad ca (bI (mLag S nc m ((lay (S 18 2) (grp S m)).getD j 0))) S) := by
  have hL0 := hL
  obtain ⟨⟨⟨q0, q1, q2, q3, q4, q5⟩, hng1, hng4, hnm3, hnc12, ht20, hrk20, hpa12⟩, hD, hG, hN, hT, hZ, hC, hCz, hA, hGa, hE⟩ := hL
  have hs := lay_lt hR hng4 hm hj
  have hs4 := (s10_s4 hs).2
  have hs10 := (s10_s4 hs).1
  rw [lag_4 hL0 (show m < 3 by omega) hs]
  have esl : slV S m j = nI (s4 ((lay (S 18 2) (grp S m)).getD j 0)) := slV_in hj
  generalize (lay (S 18 2) (grp S m)).getD j 0 = s at hs hs4 hs10 esl ⊢
  refine CI.of _ RL (by decide +kernel) rfl (Nat.le_of_ble_eq_true rfl) ?_
  intro p9 e9 s9 m9 a9 b9 me9 c9 A9 hB hr hnm9
  have loop : ∀ (n k : Nat) (b : Bool), 4 - k < n → k ≤ 4 → b = anyB (fun k => decide (S 22 2 (20 * m + 4 * s4 s + k) ≠ nI (oP (mTop S nc m s k)))) k → G p9 l e9 { frames := 2, cells := 0, slots := 0, locals := 49 } s9 m9 a9 b9 me9 c9 D ad A9 9 (MQ b9 (va_Qi (PR ad ca (bI (anyB (fun k => decide (S 22 2 (20 * m + 4 * s4 s + k) ≠ nI (oP (mTop S nc m s k)))) 4)) S) (fun E' t => WW D ad CNT A9 E' t.heap) A9) a9 s9 0 0 A9) 0 0 CNT (SH ad ca (S)) 14 [(0, .int (nI m)), (1, .int (nI j)), (2, .ref (ad 22 0)), (3, .ref (ad 22 1)), (4, .ref (ad 22 2)), (5, .ref (ad 22 3)), (6, .int (nI (s4 s))), (7, .int (bI (b))), (8, .int (nI k))] [] := by
    intro n
    induction n with
    | zero => intro k b h1; omega
    | succ n ih =>
      intro k b h1 h2 hb
      refine g_iload hB 8 dL_lags_14 rfl ?_
      refine g_iconst hB (nI 4) dL_lags_16 rfl ?_
      refine n_icmp_ge hB k 4 67 dL_lags_17 (by decide) (by omega) (by omega) (fun c_17 => ?_) (fun c_17 => ?_)
      · have hk : k = 4 := by omega
        subst hk
        refine g_iload hB 7 dL_lags_67 rfl ?_
        exact g_iret hB hr (nar_b _) (Nat.le_of_ble_eq_true rfl) (Nat.le_of_ble_eq_true rfl) (⟨by rw [hb], rfl⟩) dL_lags_69
      · refine g_iload hB 7 dL_lags_20 rfl ?_
        refine b_if_ne hB (b) 54 dL_lags_22 (by decide) (fun c_22 => ?_) (fun c_22 => ?_)
        · refine g_iconst hB (nI 1) dL_lags_54 rfl ?_
          refine g_goto hB 59 dL_lags_55 (by decide) ?_
          refine g_istore hB 7 dL_lags_59 (by decide) ?_
          refine g_iinc hB (nI (k + 1)) dL_lags_61 rfl (nI_1 _) (by decide) ?_
          refine g_goto hB 14 dL_lags_64 (by decide) ?_
          refine g_sub [(0, .int (nI m)), (1, .int (nI j)), (2, .ref (ad 22 0)), (3, .ref (ad 22 1)), (4, .ref (ad 22 2)), (5, .ref (ad 22 3)), (6, .int (nI (s4 s))), (7, .int (bI true)), (8, .int (nI (k + 1)))] rfl (ih (k + 1) _ (by omega) (by omega) (by rw [anyB, ← hb, c_22]; rfl))
        · refine g_aload hB 4 dL_lags_25 rfl ?_
          refine g_bipush hB (nI 20) dL_lags_27 rfl ?_
          refine g_iload_n hB 0 dL_lags_29 rfl rfl ?_
          refine g_imul hB dL_lags_30 ?_
          refine g_top (nI (20 * m)) (pk_mul _ _) ?_
          refine g_iconst hB (nI 4) dL_lags_31 rfl ?_
          refine g_iload hB 6 dL_lags_32 rfl ?_
          refine g_imul hB dL_lags_34 ?_
          refine g_top (nI (4 * (s4 s))) (pk_mul _ _) ?_
          refine g_iadd hB dL_lags_35 ?_
          refine g_top (nI (20 * m + 4 * (s4 s))) (nI_add _ _) ?_
          refine g_iload hB 8 dL_lags_36 rfl ?_
          refine g_iadd hB dL_lags_38 ?_
          refine g_top (nI (20 * m + 4 * (s4 s) + k)) (nI_add _ _) ?_
          refine g_iald hB 22 2 (20 * m + 4 * (s4 s) + k) (n := 60) (by decide) rfl (by first | assumption | omega) (Nat.le_of_ble_eq_true rfl) dL_lags_39 ?_
          refine g_iload_n hB 0 dL_lags_40 rfl rfl ?_
          refine g_iload hB 6 dL_lags_41 rfl ?_
          refine g_iload hB 8 dL_lags_43 rfl ?_
          refine g_aload_n hB 2 dL_lags_45 rfl rfl ?_
          refine g_aload hB 5 dL_lags_46 rfl ?_
          refine g_callSI hB (c_L_counts _ ng nm nc t pa rk hL0.1 hC m (s4 s) k hm hs4 c_17) k_L_53 yk_L_counts ⟨Nat.le_of_ble_eq_true rfl, Nat.le_of_ble_eq_true rfl⟩ rfl (Nat.le_of_ble_eq_true rfl) ⟨Nat.le_of_ble_eq_true rfl, Nat.le_of_ble_eq_true rfl⟩ dL_lags_48 ?_
          rintro _ _ ⟨rfl, rfl⟩
          refine g_top ((nI (oP (mTop S nc m s k)))) (by rw [hs10]) ?_
          refine g_icmp_eq hB 58 dL_lags_51 (by decide) (fun c_51 => ?_) (fun c_51 => ?_)
          · have e : decide (S 22 2 (20 * m + 4 * s4 s + k) ≠ nI (oP (mTop S nc m s k))) = false := decide_eq_false (fun z => z c_51)
            refine g_iconst hB (nI 0) dL_lags_58 rfl ?_
            refine g_istore hB 7 dL_lags_59 (by decide) ?_
            refine g_iinc hB (nI (k + 1)) dL_lags_61 rfl (nI_1 _) (by decide) ?_
            refine g_goto hB 14 dL_lags_64 (by decide) ?_
            refine g_sub [(0, .int (nI m)), (1, .int (nI j)), (2, .ref (ad 22 0)), (3, .ref (ad 22 1)), (4, .ref (ad 22 2)), (5, .ref (ad 22 3)), (6, .int (nI (s4 s))), (7, .int (bI false)), (8, .int (nI (k + 1)))] rfl (ih (k + 1) _ (by omega) (by omega) (by rw [anyB, ← hb, e, c_22]; rfl))
          · have e : decide (S 22 2 (20 * m + 4 * s4 s + k) ≠ nI (oP (mTop S nc m s k))) = true := decide_eq_true c_51
            refine g_iconst hB (nI 1) dL_lags_54 rfl ?_
            refine g_goto hB 59 dL_lags_55 (by decide) ?_
            refine g_istore hB 7 dL_lags_59 (by decide) ?_
            refine g_iinc hB (nI (k + 1)) dL_lags_61 rfl (nI_1 _) (by decide) ?_
            refine g_goto hB 14 dL_lags_64 (by decide) ?_
            refine g_sub [(0, .int (nI m)), (1, .int (nI j)), (2, .ref (ad 22 0)), (3, .ref (ad 22 1)), (4, .ref (ad 22 2)), (5, .ref (ad 22 3)), (6, .int (nI (s4 s))), (7, .int (bI true)), (8, .int (nI (k + 1)))] rfl (ih (k + 1) _ (by omega) (by omega) (by rw [anyB, ← hb, e, c_22]; rfl))
  refine g_iload_n hB 0 dL_lags_0 rfl rfl ?_
  refine g_iload_n hB 1 dL_lags_1 rfl rfl ?_
  refine g_aload_n hB 3 dL_lags_2 rfl rfl ?_
  refine g_callSI hB (c_L_slot _ ng nm nc t pa rk hL0 hR m hm j (Nat.le_of_lt hj)) k_L_39 yk_L_slot ⟨Nat.le_of_ble_eq_true rfl, Nat.le_of_ble_eq_true rfl⟩ rfl (Nat.le_of_ble_eq_true rfl) ⟨Nat.le_of_ble_eq_true rfl, Nat.le_of_ble_eq_true rfl⟩ dL_lags_3 ?_
  rintro _ _ ⟨rfl, rfl⟩
  refine g_top (nI (s4 s)) (esl) ?_
  refine g_istore hB 6 dL_lags_6 (by decide) ?_
  refine g_iconst hB (nI 0) dL_lags_8 rfl ?_
  refine g_istore hB 7 dL_lags_9 (by decide) ?_
  refine g_iconst hB (nI 0) dL_lags_11 rfl ?_
  refine g_istore hB 8 dL_lags_12 (by decide) ?_
  exact g_sub [(0, .int (nI m)), (1, .int (nI j)), (2, .ref (ad 22 0)), (3, .ref (ad 22 1)), (4, .ref (ad 22 2)), (5, .ref (ad 22 3)), (6, .int (nI (s4 s))), (7, .int (bI false)), (8, .int (nI 0))] rfl (loop 5 0 false (by omega) (by omega) rfl)

theorem c_L_decides (S : Mem) (ng nm nc t pa rk : Nat) (hL : LR S ng nm nc t pa rk) (hR : RI S ng nm nc t pa) (m : Nat) (hm : m < nm) (k : Nat) (hk : k < 4) (b : Bool) : CI l yL_decides cL_decides 12 (some .int) { frames := 2, cells := 0, slots := 0, locals := 49 } D ad CNT ca SR (SH ad ca S) [.int (nI m), .int (nI k), .int (bI (b)), .ref (ad 22 0), .ref (ad 22 1), .ref (ad 22 2), .ref (ad 22 3)] (PR ad ca (dcV S nc m b k) S) := by
  have hL0 := hL
  obtain ⟨⟨⟨q0, q1, q2, q3, q4, q5⟩, hng1, hng4, hnm3, hnc12, ht20, hrk20, hpa12⟩, hD, hG, hN, hT, hZ, hC, hCz, hA, hGa, hE⟩ := hL
  have hld := lay_dup hR hm
  refine CI.of _ RL (by decide +kernel) rfl (Nat.le_of_ble_eq_true rfl) ?_
  intro p9 e9 s9 m9 a9 b9 me9 c9 A9 hB hr hnm9
  have loop : ∀ (n : Nat) (f : Int32), n ≤ (lay (S 18 2) (grp S m)).length → f = dcX S nc m b k ((lay (S 18 2) (grp S m)).length - n) → G p9 l e9 { frames := 2, cells := 0, slots := 0, locals := 49 } s9 m9 a9 b9 me9 c9 D ad A9 12 (MQ b9 (va_Qi (PR ad ca (dcV S nc m b k) S) (fun E' t => WW D ad CNT A9 E' t.heap) A9) a9 s9 0 0 A9) 0 0 CNT (SH ad ca (S)) 13 [(0, .int (nI m)), (1, .int (nI k)), (2, .int (bI (b))), (3, .ref (ad 22 0)), (4, .ref (ad 22 1)), (5, .ref (ad 22 2)), (6, .ref (ad 22 3)), (7, .int (f)), (8, .int (lI n))] [] := by
    intro n
    induction n with
    | zero =>
      intro f h1 h2
      have h3 : f = dcV S nc m b k := h2
      refine g_iload hB 8 dL_decides_13 rfl ?_
      refine g_if_lt hB 123 dL_decides_15 (by decide) (fun _ => ?_) (fun z => absurd (by decide) z)
      refine g_iload hB 7 dL_decides_123 rfl ?_
      exact g_iret hB hr rfl (Nat.le_of_ble_eq_true rfl) (Nat.le_of_ble_eq_true rfl) (⟨h3, rfl⟩) dL_decides_125
    | succ n ih =>
      intro f h1 h2
      have hs := lay_lt hR hng4 hm (show n < (lay (S 18 2) (grp S m)).length by omega)
      have hs4 := (s10_s4 hs).2
      have hs10 := (s10_s4 hs).1
      have esl : slV S m n = nI (s4 ((lay (S 18 2) (grp S m)).getD n 0)) := slV_in (by omega)
      have hst := dc_step (S := S) (nc := nc) (m := m) (tk := b) (k := k) (show n < (lay (S 18 2) (grp S m)).length by omega)
      obtain ⟨x, x1, x2, x3⟩ := ch_it hL0 (show m < 3 by omega) hs hk b
      have mid : G p9 l e9 { frames := 2, cells := 0, slots := 0, locals := 49 } s9 m9 a9 b9 me9 c9 D ad A9 12 (MQ b9 (va_Qi (PR ad ca (dcV S nc m b k) S) (fun E' t => WW D ad CNT A9 E' t.heap) A9) a9 s9 0 0 A9) 0 0 CNT (SH ad ca (S)) 59 [(0, .int (nI m)), (1, .int (nI k)), (2, .int (bI (b))), (3, .ref (ad 22 0)), (4, .ref (ad 22 1)), (5, .ref (ad 22 2)), (6, .ref (ad 22 3)), (7, .int (f)), (8, .int (nI n)), (9, .int (nI (s4 ((lay (S 18 2) (grp S m)).getD n 0))))] [.int (nI x)] := by
        rcases x1 with ⟨y1, y2⟩ | ⟨c, hc, y1, y2⟩
        · subst y2
          have e : dcS S nc m b k n = false := by unfold dcS; rw [y1]; rfl
          rw [e, cond_false] at hst
          refine g_istore hB 10 dL_decides_59 (by decide) ?_
          refine g_iload hB 10 dL_decides_61 rfl ?_
          refine g_if_ne hB 71 dL_decides_63 (by decide) (fun z => absurd rfl z) (fun _ => ?_)
          refine g_bipush hB (nI 101) dL_decides_66 rfl ?_
          refine g_goto hB 80 dL_decides_68 (by decide) ?_
          refine g_istore hB 11 dL_decides_80 (by decide) ?_
          refine g_iload hB 11 dL_decides_82 rfl ?_
          refine g_bipush hB (nI 101) dL_decides_84 rfl ?_
          refine n_icmp_ne hB 101 101 94 dL_decides_86 (by decide) (by decide) (by decide) (fun z => absurd z (by decide)) (fun _ => ?_)
          refine g_iload hB 7 dL_decides_89 rfl ?_
          refine g_goto hB 115 dL_decides_91 (by decide) ?_
          refine g_istore hB 7 dL_decides_115 (by decide) ?_
          refine g_iinc hB ((lI n)) dL_decides_117 rfl (lI_pred n) (by decide) ?_
          refine g_goto hB 13 dL_decides_120 (by decide) ?_
          exact g_sub _ rfl (ih _ (by omega) (h2.trans hst.symm))
        · subst y2
          obtain ⟨p', k', w, st, -, -, -, -, a5, -, b1, b2, b3, b4, b5, b6, b7, b8, b9⟩ := hC c hc
          have e0 : dcS S nc m b k n = decide (nI w ≠ nI 101) := by unfold dcS stopB; rw [y1, ix_nI (by omega), b6, decide_eq_true (p := nI c ≠ -1) (m1_ne (by omega)), Bool.true_and]
          have e1 : dcW S nc m b k n = bif decide (nI w = nI 100) then -1 else nI (100 * n + c) := by unfold dcW; rw [y1, ix_nI (by omega), b6]
          refine g_istore hB 10 dL_decides_59 (by decide) ?_
          refine g_iload hB 10 dL_decides_61 rfl ?_
          refine g_if_ne hB 71 dL_decides_63 (by decide) (fun c_63 => ?_) (fun c_63 => ?_)
          · refine g_aload hB 6 dL_decides_71 rfl ?_
            refine g_iconst hB (nI 5) dL_decides_73 rfl ?_
            refine g_iload hB 10 dL_decides_74 rfl ?_
            refine g_imul hB dL_decides_76 ?_
            refine g_top (nI (5 * (c + 1))) (pk_mul _ _) ?_
            refine g_iconst hB (nI 3) dL_decides_77 rfl ?_
            refine g_isub hB dL_decides_78 ?_
            refine g_top (nI (5 * c + 2)) (sub53) ?_
            refine g_iald hB 22 3 (5 * c + 2) (n := 60) (by decide) rfl (by first | assumption | omega) (Nat.le_of_ble_eq_true rfl) dL_decides_79 ?_
            refine g_top (nI (w)) (b5) ?_
            refine g_istore hB 11 dL_decides_80 (by decide) ?_
            refine g_iload hB 11 dL_decides_82 rfl ?_
            refine g_bipush hB (nI 101) dL_decides_84 rfl ?_
            refine n_icmp_ne hB w 101 94 dL_decides_86 (by decide) (by omega) (by omega) (fun c_86 => ?_) (fun c_86 => ?_)
            · have d_86 : decide (w = 101) = false := decide_eq_false c_86
              have e : dcS S nc m b k n = true := by rw [e0]; exact decide_eq_true (fun z => c_86 ((nI_eq (by omega) (by omega)).mp z))
              rw [e, cond_true, e1] at hst
              refine g_iload hB 11 dL_decides_94 rfl ?_
              refine g_bipush hB (nI 100) dL_decides_96 rfl ?_
              refine n_icmp_ne hB w 100 105 dL_decides_98 (by decide) (by omega) (by omega) (fun c_98 => ?_) (fun c_98 => ?_)
              · have d_98 : decide (w = 100) = false := decide_eq_false c_98
                rw [decide_eq_false (fun z => c_98 ((nI_eq (by omega) (by omega)).mp z)), cond_false] at hst
                refine g_bipush hB (nI 100) dL_decides_105 rfl ?_
                refine g_iload hB 8 dL_decides_107 rfl ?_
                refine g_imul hB dL_decides_109 ?_
                refine g_top (nI (100 * n)) (pk_mul _ _) ?_
                refine g_iload hB 10 dL_decides_110 rfl ?_
                refine g_iadd hB dL_decides_112 ?_
                refine g_top (nI (100 * n + c + 1)) (nI_add _ _) ?_
                refine g_iconst hB (nI 1) dL_decides_113 rfl ?_
                refine g_isub hB dL_decides_114 ?_
                refine g_top (nI (100 * n + c)) (sub1) ?_
                refine g_istore hB 7 dL_decides_115 (by decide) ?_
                refine g_iinc hB ((lI n)) dL_decides_117 rfl (lI_pred n) (by decide) ?_
                refine g_goto hB 13 dL_decides_120 (by decide) ?_
                exact g_sub _ rfl (ih _ (by omega) (hst.symm))
              · have d_98 : decide (w = 100) = true := decide_eq_true c_98
                rw [c_98, decide_eq_true rfl, cond_true] at hst
                refine g_iconst hB (-1) dL_decides_101 rfl ?_
                refine g_goto hB 115 dL_decides_102 (by decide) ?_
                refine g_istore hB 7 dL_decides_115 (by decide) ?_
                refine g_iinc hB ((lI n)) dL_decides_117 rfl (lI_pred n) (by decide) ?_
                refine g_goto hB 13 dL_decides_120 (by decide) ?_
                exact g_sub _ rfl (ih _ (by omega) (hst.symm))
            · have d_86 : decide (w = 101) = true := decide_eq_true c_86
              have e : dcS S nc m b k n = false := by rw [e0, c_86]; rfl
              rw [e, cond_false] at hst
              refine g_iload hB 7 dL_decides_89 rfl ?_
              refine g_goto hB 115 dL_decides_91 (by decide) ?_
              refine g_istore hB 7 dL_decides_115 (by decide) ?_
              refine g_iinc hB ((lI n)) dL_decides_117 rfl (lI_pred n) (by decide) ?_
              refine g_goto hB 13 dL_decides_120 (by decide) ?_
              exact g_sub _ rfl (ih _ (by omega) (h2.trans hst.symm))
          · exact absurd c_63 (nI_no0 (by omega) (by omega))
      cases b with
      | false =>
        have hx3 := x3 rfl
        refine g_iload hB 8 dL_decides_13 rfl ?_
        refine n_if_lt (tgt := 123) hB _ dL_decides_15 (by decide) (by omega) ?_
        refine g_iload_n hB 0 dL_decides_18 rfl rfl ?_
        refine g_iload hB 8 dL_decides_19 rfl ?_
        refine g_aload hB 4 dL_decides_21 rfl ?_
        refine g_callSI hB (c_L_slot _ ng nm nc t pa rk hL0 hR m hm n (by omega)) k_L_39 yk_L_slot ⟨Nat.le_of_ble_eq_true rfl, Nat.le_of_ble_eq_true rfl⟩ rfl (Nat.le_of_ble_eq_true rfl) ⟨Nat.le_of_ble_eq_true rfl, Nat.le_of_ble_eq_true rfl⟩ dL_decides_23 ?_
        rintro _ _ ⟨rfl, rfl⟩
        refine g_top (nI (s4 ((lay (S 18 2) (grp S m)).getD n 0))) (esl) ?_
        refine g_istore hB 9 dL_decides_26 (by decide) ?_
        refine g_iload_n hB 2 dL_decides_28 rfl rfl ?_
        refine b_if_eq hB (false) 49 dL_decides_29 (by decide) (fun c_29 => ?_) (fun c_29 => ?_)
        · refine g_iload_n hB 0 dL_decides_49 rfl rfl ?_
          refine g_iload hB 9 dL_decides_50 rfl ?_
          refine g_iload_n hB 1 dL_decides_52 rfl rfl ?_
          refine g_aload_n hB 3 dL_decides_53 rfl rfl ?_
          refine g_aload hB 6 dL_decides_54 rfl ?_
          refine g_callSI hB (c_L_counts _ ng nm nc t pa rk hL0.1 hC m (s4 ((lay (S 18 2) (grp S m)).getD n 0)) k hm hs4 hk) k_L_53 yk_L_counts ⟨Nat.le_of_ble_eq_true rfl, Nat.le_of_ble_eq_true rfl⟩ rfl (Nat.le_of_ble_eq_true rfl) ⟨Nat.le_of_ble_eq_true rfl, Nat.le_of_ble_eq_true rfl⟩ dL_decides_56 ?_
          rintro _ _ ⟨rfl, rfl⟩
          refine g_top (nI (x)) (by rw [hs10, hx3]) ?_
          exact g_sub _ rfl mid
        · cases c_29
      | true =>
        have hx2 := x2 rfl
        refine g_iload hB 8 dL_decides_13 rfl ?_
        refine n_if_lt (tgt := 123) hB _ dL_decides_15 (by decide) (by omega) ?_
        refine g_iload_n hB 0 dL_decides_18 rfl rfl ?_
        refine g_iload hB 8 dL_decides_19 rfl ?_
        refine g_aload hB 4 dL_decides_21 rfl ?_
        refine g_callSI hB (c_L_slot _ ng nm nc t pa rk hL0 hR m hm n (by omega)) k_L_39 yk_L_slot ⟨Nat.le_of_ble_eq_true rfl, Nat.le_of_ble_eq_true rfl⟩ rfl (Nat.le_of_ble_eq_true rfl) ⟨Nat.le_of_ble_eq_true rfl, Nat.le_of_ble_eq_true rfl⟩ dL_decides_23 ?_
        rintro _ _ ⟨rfl, rfl⟩
        refine g_top (nI (s4 ((lay (S 18 2) (grp S m)).getD n 0))) (esl) ?_
        refine g_istore hB 9 dL_decides_26 (by decide) ?_
        refine g_iload_n hB 2 dL_decides_28 rfl rfl ?_
        refine b_if_eq hB (true) 49 dL_decides_29 (by decide) (fun c_29 => ?_) (fun c_29 => ?_)
        · cases c_29
        · refine g_aload hB 5 dL_decides_32 rfl ?_
          refine g_bipush hB (nI 20) dL_decides_34 rfl ?_
          refine g_iload_n hB 0 dL_decides_36 rfl rfl ?_
          refine g_imul hB dL_decides_37 ?_
          refine g_top (nI (20 * m)) (pk_mul _ _) ?_
          refine g_iconst hB (nI 4) dL_decides_38 rfl ?_
          refine g_iload hB 9 dL_decides_39 rfl ?_
          refine g_imul hB dL_decides_41 ?_
          refine g_top (nI (4 * (s4 ((lay (S 18 2) (grp S m)).getD n 0)))) (pk_mul _ _) ?_
          refine g_iadd hB dL_decides_42 ?_
          refine g_top (nI (20 * m + 4 * (s4 ((lay (S 18 2) (grp S m)).getD n 0)))) (nI_add _ _) ?_
          refine g_iload_n hB 1 dL_decides_43 rfl rfl ?_
          refine g_iadd hB dL_decides_44 ?_
          refine g_top (nI (20 * m + 4 * (s4 ((lay (S 18 2) (grp S m)).getD n 0)) + k)) (nI_add _ _) ?_
          refine g_iald hB 22 2 (20 * m + 4 * (s4 ((lay (S 18 2) (grp S m)).getD n 0)) + k) (n := 60) (by decide) rfl (by first | assumption | omega) (Nat.le_of_ble_eq_true rfl) dL_decides_45 ?_
          refine g_top (nI (x)) (hx2) ?_
          refine g_goto hB 59 dL_decides_46 (by decide) ?_
          exact g_sub _ rfl mid
  refine g_iconst hB (-1) dL_decides_0 rfl ?_
  refine g_istore hB 7 dL_decides_1 (by decide) ?_
  refine g_iload_n hB 0 dL_decides_3 rfl rfl ?_
  refine g_aload hB 4 dL_decides_4 rfl ?_
  refine g_callSI hB (c_L_layers _ ng nm nc t pa rk hL0 hR m hm) k_L_49 yk_L_layers ⟨Nat.le_of_ble_eq_true rfl, Nat.le_of_ble_eq_true rfl⟩ rfl (Nat.le_of_ble_eq_true rfl) ⟨Nat.le_of_ble_eq_true rfl, Nat.le_of_ble_eq_true rfl⟩ dL_decides_6 ?_
  rintro _ _ ⟨rfl, rfl⟩
  refine g_iconst hB (nI 1) dL_decides_9 rfl ?_
  refine g_isub hB dL_decides_10 ?_
  refine g_top ((lI (lay (S 18 2) (grp S m)).length)) (lI_sub _) ?_
  refine g_istore hB 8 dL_decides_11 (by decide) ?_
  exact g_sub _ rfl (loop _ _ (Nat.le_refl _) (by rw [Nat.sub_self]; rfl))

theorem dv100 {i c : Nat} (hi : i < 5) (hc : c < 12) : nI (100 * i + c) / nI 100 = nI i := by rw [pk_div (by omega) (by omega) (by omega)]; exact congrArg nI (by omega)
theorem rm100 {i c : Nat} (hi : i < 5) (hc : c < 12) : nI (100 * i + c) - nI (100 * i + c) / nI 100 * nI 100 = nI c := by rw [pk_rem (by omega) (by omega) (by omega)]; exact congrArg nI (by omega)
theorem c_L_hides (S : Mem) (ng nm nc t pa rk : Nat) (hL : LR S ng nm nc t pa rk) (hR : RI S ng nm nc t pa) (m : Nat) (hm : m < nm) (k : Nat) (hk : k < 4) (b : Bool) : CI l yL_hides cL_hides 13 (some .boolean) { frames := 3, cells := 0, slots := 0, locals := 80 } D ad CNT ca SR (SH ad ca S) [.int (nI m), .int (nI k), .int (bI (b)), .ref (ad 22 0), .ref (ad 22 1), .ref (ad 22 2), .ref (ad 22 3), .ref (ad 22 6)] (PR ad ca (bI (rHid S nc m (grp S m) b k)) S) := by
  have hL0 := hL
  obtain ⟨⟨⟨q0, q1, q2, q3, q4, q5⟩, hng1, hng4, hnm3, hnc12, ht20, hrk20, hpa12⟩, hD, hG, hN, hT, hZ, hC, hCz, hA, hGa, hE⟩ := hL
  rw [hid_4 hL0 hR hm b]
  refine CI.of _ RL (by decide +kernel) rfl (Nat.le_of_ble_eq_true rfl) ?_
  intro p9 e9 s9 m9 a9 b9 me9 c9 A9 hB hr hnm9
  rcases dcV_T hL0 hR hm hk b with ⟨d1, d2⟩ | ⟨i, c, w, hi, hc, hw, d1, d2, d3⟩
  · have hz : anyB (hddB S nc m b k) 4 = false := anyB_f (fun o _ => by
      unfold hddB
      rw [d2, decide_eq_false (p := ((-1, -1, -1) : Int32 × Int32 × Int32).1 ≠ -1) (fun z => z rfl), Bool.false_and, Bool.and_false])
    rw [hz]
    refine g_iload_n hB 0 dL_hides_0 rfl rfl ?_
    refine g_iload_n hB 1 dL_hides_1 rfl rfl ?_
    refine g_iload_n hB 2 dL_hides_2 rfl rfl ?_
    refine g_aload_n hB 3 dL_hides_3 rfl rfl ?_
    refine g_aload hB 4 dL_hides_4 rfl ?_
    refine g_aload hB 5 dL_hides_6 rfl ?_
    refine g_aload hB 6 dL_hides_8 rfl ?_
    refine g_callSI hB (c_L_decides _ ng nm nc t pa rk hL0 hR m hm k hk b) k_L_57 yk_L_decides ⟨Nat.le_of_ble_eq_true rfl, Nat.le_of_ble_eq_true rfl⟩ rfl (Nat.le_of_ble_eq_true rfl) ⟨Nat.le_of_ble_eq_true rfl, Nat.le_of_ble_eq_true rfl⟩ dL_hides_10 ?_
    rintro _ _ ⟨rfl, rfl⟩
    refine g_top ((-1)) (d1) ?_
    refine g_istore hB 8 dL_hides_13 (by decide) ?_
    refine g_iconst hB (nI 0) dL_hides_15 rfl ?_
    refine g_istore hB 9 dL_hides_16 (by decide) ?_
    refine g_iconst hB (nI 0) dL_hides_18 rfl ?_
    refine g_istore hB 10 dL_hides_19 (by decide) ?_
    refine g_iload hB 10 dL_hides_21 rfl ?_
    refine g_iconst hB (nI 4) dL_hides_23 rfl ?_
    refine n_icmp_ge hB 0 4 158 dL_hides_24 (by decide) (by decide) (by decide) (fun z => absurd z (by decide)) (fun _ => ?_)
    refine g_iload hB 8 dL_hides_27 rfl ?_
    refine g_if_lt hB 158 dL_hides_29 (by decide) (fun _ => ?_) (fun z => absurd (by decide) z)
    refine g_iload hB 9 dL_hides_158 rfl ?_
    exact g_iret hB hr rfl (Nat.le_of_ble_eq_true rfl) (Nat.le_of_ble_eq_true rfl) (⟨rfl, rfl⟩) dL_hides_160
  · have loop : ∀ (n o : Nat) (acc : Bool), 4 - o < n → o ≤ 4 → acc = anyB (hddB S nc m b k) o → G p9 l e9 { frames := 3, cells := 0, slots := 0, locals := 80 } s9 m9 a9 b9 me9 c9 D ad A9 13 (MQ b9 (va_Qi (PR ad ca (bI (anyB (hddB S nc m b k) 4)) S) (fun E' t => WW D ad CNT A9 E' t.heap) A9) a9 s9 0 0 A9) 0 0 CNT (SH ad ca (S)) 21 [(0, .int (nI m)), (1, .int (nI k)), (2, .int (bI (b))), (3, .ref (ad 22 0)), (4, .ref (ad 22 1)), (5, .ref (ad 22 2)), (6, .ref (ad 22 3)), (7, .ref (ad 22 6)), (8, .int (nI (100 * i + c))), (9, .int (bI (acc))), (10, .int (nI o))] [] := by
      intro n
      induction n with
      | zero => intro o acc h1; omega
      | succ n ih =>
        intro o acc h1 h2 ha
        have hih : o < 4 → ∀ v : Bool, v = (acc || hddB S nc m b k o) → G p9 l e9 { frames := 3, cells := 0, slots := 0, locals := 80 } s9 m9 a9 b9 me9 c9 D ad A9 13 (MQ b9 (va_Qi (PR ad ca (bI (anyB (hddB S nc m b k) 4)) S) (fun E' t => WW D ad CNT A9 E' t.heap) A9) a9 s9 0 0 A9) 0 0 CNT (SH ad ca (S)) 21 [(0, .int (nI m)), (1, .int (nI k)), (2, .int (bI (b))), (3, .ref (ad 22 0)), (4, .ref (ad 22 1)), (5, .ref (ad 22 2)), (6, .ref (ad 22 3)), (7, .ref (ad 22 6)), (8, .int (nI (100 * i + c))), (9, .int (bI (v))), (10, .int (nI (o + 1)))] [] := fun ho v hv => ih (o + 1) v (by omega) (by omega) (by rw [anyB, ← ha]; exact hv)
        have none_ : o < 4 → hddB S nc m b k o = false → G p9 l e9 { frames := 3, cells := 0, slots := 0, locals := 80 } s9 m9 a9 b9 me9 c9 D ad A9 13 (MQ b9 (va_Qi (PR ad ca (bI (anyB (hddB S nc m b k) 4)) S) (fun E' t => WW D ad CNT A9 E' t.heap) A9) a9 s9 0 0 A9) 0 0 CNT (SH ad ca (S)) 63 [(0, .int (nI m)), (1, .int (nI k)), (2, .int (bI (b))), (3, .ref (ad 22 0)), (4, .ref (ad 22 1)), (5, .ref (ad 22 2)), (6, .ref (ad 22 3)), (7, .ref (ad 22 6)), (8, .int (nI (100 * i + c))), (9, .int (bI (acc))), (10, .int (nI o))] [.int (-1)] := by
          intro ho e
          refine g_istore hB 11 dL_hides_63 (by decide) ?_
          refine g_iload hB 11 dL_hides_65 rfl ?_
          refine g_if_lt hB 87 dL_hides_67 (by decide) (fun _ => ?_) (fun z => absurd (by decide) z)
          refine g_iconst hB (nI 0) dL_hides_87 rfl ?_
          refine g_istore hB 12 dL_hides_88 (by decide) ?_
          refine g_iload hB 9 dL_hides_90 rfl ?_
          refine b_if_ne hB (acc) 145 dL_hides_92 (by decide) (fun c_92 => ?_) (fun c_92 => ?_)
          · refine g_iconst hB (nI 1) dL_hides_145 rfl ?_
            refine g_goto hB 150 dL_hides_146 (by decide) ?_
            refine g_istore hB 9 dL_hides_150 (by decide) ?_
            refine g_iinc hB (nI (o + 1)) dL_hides_152 rfl (nI_1 _) (by decide) ?_
            refine g_goto hB 21 dL_hides_155 (by decide) ?_
            refine g_sub [(0, .int (nI m)), (1, .int (nI k)), (2, .int (bI (b))), (3, .ref (ad 22 0)), (4, .ref (ad 22 1)), (5, .ref (ad 22 2)), (6, .ref (ad 22 3)), (7, .ref (ad 22 6)), (8, .int (nI (100 * i + c))), (9, .int (bI (true))), (10, .int (nI (o + 1)))] rfl (hih ho _ (by rw [e, c_92]; rfl))
          · refine g_iload hB 11 dL_hides_95 rfl ?_
            refine g_if_lt hB 113 dL_hides_97 (by decide) (fun _ => ?_) (fun z => absurd (by decide) z)
            refine g_iload hB 12 dL_hides_113 rfl ?_
            refine g_if_eq hB 149 dL_hides_115 (by decide) (fun _ => ?_) (fun z => absurd rfl z)
            refine g_iconst hB (nI 0) dL_hides_149 rfl ?_
            refine g_istore hB 9 dL_hides_150 (by decide) ?_
            refine g_iinc hB (nI (o + 1)) dL_hides_152 rfl (nI_1 _) (by decide) ?_
            refine g_goto hB 21 dL_hides_155 (by decide) ?_
            refine g_sub [(0, .int (nI m)), (1, .int (nI k)), (2, .int (bI (b))), (3, .ref (ad 22 0)), (4, .ref (ad 22 1)), (5, .ref (ad 22 2)), (6, .ref (ad 22 3)), (7, .ref (ad 22 6)), (8, .int (nI (100 * i + c))), (9, .int (bI (false))), (10, .int (nI (o + 1)))] rfl (hih ho _ (by rw [e, c_92]; rfl))
        have some_ : o < 4 → bitI (S 18 15 k) (nI o) = true → ∀ (i' c' w' : Nat), i' < 5 → c' < nc → w' < 102 → rLook S nc m (grp S m) b o = (nI w', nI i', nI c') → G p9 l e9 { frames := 3, cells := 0, slots := 0, locals := 80 } s9 m9 a9 b9 me9 c9 D ad A9 13 (MQ b9 (va_Qi (PR ad ca (bI (anyB (hddB S nc m b k) 4)) S) (fun E' t => WW D ad CNT A9 E' t.heap) A9) a9 s9 0 0 A9) 0 0 CNT (SH ad ca (S)) 63 [(0, .int (nI m)), (1, .int (nI k)), (2, .int (bI (b))), (3, .ref (ad 22 0)), (4, .ref (ad 22 1)), (5, .ref (ad 22 2)), (6, .ref (ad 22 3)), (7, .ref (ad 22 6)), (8, .int (nI (100 * i + c))), (9, .int (bI (acc))), (10, .int (nI o))] [.int (nI (100 * i' + c'))] := by
          intro ho hbit i' c' w' hi' hc' hw' d4
          have e0 : hddB S nc m b k o = (decide (i' < i) || (decide (i = i') && decide (S 22 3 (5 * c + 4) < S 22 3 (5 * c' + 4)))) := by
            unfold hddB
            rw [hbit, d2, d4]
            dsimp only
            rw [decide_eq_true (p := nI w ≠ -1) (m1_ne (by omega)), decide_eq_true (p := nI w' ≠ -1) (m1_ne (by omega)), ix_nI (by omega), ix_nI (by omega), Bool.true_and, Bool.true_and, Bool.true_and]
            rw [decide_eq_decide.mpr (show nI i' < nI i ↔ i' < i from nI_ltI (by omega) (by omega)), decide_eq_decide.mpr (show nI i = nI i' ↔ i = i' from nI_eq (by omega) (by omega)), decide_eq_decide.mpr (rk_cmp hL0 hc hc').symm]
          refine g_istore hB 11 dL_hides_63 (by decide) ?_
          refine g_iload hB 11 dL_hides_65 rfl ?_
          refine n_if_lt (tgt := 87) hB _ dL_hides_67 (by decide) (by omega) ?_
          refine g_iload hB 11 dL_hides_70 rfl ?_
          refine g_bipush hB (nI 100) dL_hides_72 rfl ?_
          refine g_idiv hB (by decide) dL_hides_74 ?_
          refine g_top (nI (i')) (dv100 hi' (by omega)) ?_
          refine g_iload hB 8 dL_hides_75 rfl ?_
          refine g_bipush hB (nI 100) dL_hides_77 rfl ?_
          refine g_idiv hB (by decide) dL_hides_79 ?_
          refine g_top (nI (i)) (dv100 hi (by omega)) ?_
          refine n_icmp_ne hB i' i 87 dL_hides_80 (by decide) (by omega) (by omega) (fun c_80 => ?_) (fun c_80 => ?_)
          · have d_80 : decide (i' = i) = false := decide_eq_false c_80
            refine g_iconst hB (nI 0) dL_hides_87 rfl ?_
            refine g_istore hB 12 dL_hides_88 (by decide) ?_
            refine g_iload hB 9 dL_hides_90 rfl ?_
            refine b_if_ne hB (acc) 145 dL_hides_92 (by decide) (fun c_92 => ?_) (fun c_92 => ?_)
            · refine g_iconst hB (nI 1) dL_hides_145 rfl ?_
              refine g_goto hB 150 dL_hides_146 (by decide) ?_
              refine g_istore hB 9 dL_hides_150 (by decide) ?_
              refine g_iinc hB (nI (o + 1)) dL_hides_152 rfl (nI_1 _) (by decide) ?_
              refine g_goto hB 21 dL_hides_155 (by decide) ?_
              refine g_sub [(0, .int (nI m)), (1, .int (nI k)), (2, .int (bI (b))), (3, .ref (ad 22 0)), (4, .ref (ad 22 1)), (5, .ref (ad 22 2)), (6, .ref (ad 22 3)), (7, .ref (ad 22 6)), (8, .int (nI (100 * i + c))), (9, .int (bI (true))), (10, .int (nI (o + 1)))] rfl (hih ho _ (by rw [c_92]; rfl))
            · refine g_iload hB 11 dL_hides_95 rfl ?_
              refine n_if_lt (tgt := 113) hB _ dL_hides_97 (by decide) (by omega) ?_
              refine g_iload hB 11 dL_hides_100 rfl ?_
              refine g_bipush hB (nI 100) dL_hides_102 rfl ?_
              refine g_idiv hB (by decide) dL_hides_104 ?_
              refine g_top (nI (i')) (dv100 hi' (by omega)) ?_
              refine g_iload hB 8 dL_hides_105 rfl ?_
              refine g_bipush hB (nI 100) dL_hides_107 rfl ?_
              refine g_idiv hB (by decide) dL_hides_109 ?_
              refine g_top (nI (i)) (dv100 hi (by omega)) ?_
              refine n_icmp_lt hB i' i 145 dL_hides_110 (by decide) (by omega) (by omega) (fun c_110 => ?_) (fun c_110 => ?_)
              · have e : hddB S nc m b k o = true := by rw [e0, decide_eq_true c_110]; rfl
                refine g_iconst hB (nI 1) dL_hides_145 rfl ?_
                refine g_goto hB 150 dL_hides_146 (by decide) ?_
                refine g_istore hB 9 dL_hides_150 (by decide) ?_
                refine g_iinc hB (nI (o + 1)) dL_hides_152 rfl (nI_1 _) (by decide) ?_
                refine g_goto hB 21 dL_hides_155 (by decide) ?_
                refine g_sub [(0, .int (nI m)), (1, .int (nI k)), (2, .int (bI (b))), (3, .ref (ad 22 0)), (4, .ref (ad 22 1)), (5, .ref (ad 22 2)), (6, .ref (ad 22 3)), (7, .ref (ad 22 6)), (8, .int (nI (100 * i + c))), (9, .int (bI (true))), (10, .int (nI (o + 1)))] rfl (hih ho _ (by rw [e, c_92]; rfl))
              · refine g_iload hB 12 dL_hides_113 rfl ?_
                refine g_if_eq hB 149 dL_hides_115 (by decide) (fun _ => ?_) (fun z => absurd rfl z)
                refine g_iconst hB (nI 0) dL_hides_149 rfl ?_
                refine g_istore hB 9 dL_hides_150 (by decide) ?_
                refine g_iinc hB (nI (o + 1)) dL_hides_152 rfl (nI_1 _) (by decide) ?_
                refine g_goto hB 21 dL_hides_155 (by decide) ?_
                have e : hddB S nc m b k o = false := by rw [e0, decide_eq_false (show ¬ i' < i by omega), decide_eq_false (show ¬ i = i' by omega)]; rfl
                refine g_sub [(0, .int (nI m)), (1, .int (nI k)), (2, .int (bI (b))), (3, .ref (ad 22 0)), (4, .ref (ad 22 1)), (5, .ref (ad 22 2)), (6, .ref (ad 22 3)), (7, .ref (ad 22 6)), (8, .int (nI (100 * i + c))), (9, .int (bI (false))), (10, .int (nI (o + 1)))] rfl (hih ho _ (by rw [e, c_92]; rfl))
          · have d_80 : decide (i' = i) = true := decide_eq_true c_80
            refine g_iconst hB (nI 1) dL_hides_83 rfl ?_
            refine g_goto hB 88 dL_hides_84 (by decide) ?_
            refine g_istore hB 12 dL_hides_88 (by decide) ?_
            refine g_iload hB 9 dL_hides_90 rfl ?_
            refine b_if_ne hB (acc) 145 dL_hides_92 (by decide) (fun c_92 => ?_) (fun c_92 => ?_)
            · refine g_iconst hB (nI 1) dL_hides_145 rfl ?_
              refine g_goto hB 150 dL_hides_146 (by decide) ?_
              refine g_istore hB 9 dL_hides_150 (by decide) ?_
              refine g_iinc hB (nI (o + 1)) dL_hides_152 rfl (nI_1 _) (by decide) ?_
              refine g_goto hB 21 dL_hides_155 (by decide) ?_
              refine g_sub [(0, .int (nI m)), (1, .int (nI k)), (2, .int (bI (b))), (3, .ref (ad 22 0)), (4, .ref (ad 22 1)), (5, .ref (ad 22 2)), (6, .ref (ad 22 3)), (7, .ref (ad 22 6)), (8, .int (nI (100 * i + c))), (9, .int (bI (true))), (10, .int (nI (o + 1)))] rfl (hih ho _ (by rw [c_92]; rfl))
            · refine g_iload hB 11 dL_hides_95 rfl ?_
              refine n_if_lt (tgt := 113) hB _ dL_hides_97 (by decide) (by omega) ?_
              refine g_iload hB 11 dL_hides_100 rfl ?_
              refine g_bipush hB (nI 100) dL_hides_102 rfl ?_
              refine g_idiv hB (by decide) dL_hides_104 ?_
              refine g_top (nI (i')) (dv100 hi' (by omega)) ?_
              refine g_iload hB 8 dL_hides_105 rfl ?_
              refine g_bipush hB (nI 100) dL_hides_107 rfl ?_
              refine g_idiv hB (by decide) dL_hides_109 ?_
              refine g_top (nI (i)) (dv100 hi (by omega)) ?_
              refine n_icmp_lt hB i' i 145 dL_hides_110 (by decide) (by omega) (by omega) (fun c_110 => ?_) (fun c_110 => ?_)
              · have e : hddB S nc m b k o = true := by rw [e0, decide_eq_true c_110]; rfl
                refine g_iconst hB (nI 1) dL_hides_145 rfl ?_
                refine g_goto hB 150 dL_hides_146 (by decide) ?_
                refine g_istore hB 9 dL_hides_150 (by decide) ?_
                refine g_iinc hB (nI (o + 1)) dL_hides_152 rfl (nI_1 _) (by decide) ?_
                refine g_goto hB 21 dL_hides_155 (by decide) ?_
                refine g_sub [(0, .int (nI m)), (1, .int (nI k)), (2, .int (bI (b))), (3, .ref (ad 22 0)), (4, .ref (ad 22 1)), (5, .ref (ad 22 2)), (6, .ref (ad 22 3)), (7, .ref (ad 22 6)), (8, .int (nI (100 * i + c))), (9, .int (bI (true))), (10, .int (nI (o + 1)))] rfl (hih ho _ (by rw [e, c_92]; rfl))
              · refine g_iload hB 12 dL_hides_113 rfl ?_
                refine g_if_eq hB 149 dL_hides_115 (by decide) (fun z => absurd z (by decide)) (fun _ => ?_)
                refine g_aload hB 6 dL_hides_118 rfl ?_
                refine g_iconst hB (nI 5) dL_hides_120 rfl ?_
                refine g_iload hB 11 dL_hides_121 rfl ?_
                refine g_bipush hB (nI 100) dL_hides_123 rfl ?_
                refine g_irem hB (by decide) dL_hides_125 ?_
                refine g_top (nI (c')) (rm100 hi' (by omega)) ?_
                refine g_imul hB dL_hides_126 ?_
                refine g_top (nI (5 * c')) (pk_mul _ _) ?_
                refine g_iconst hB (nI 4) dL_hides_127 rfl ?_
                refine g_iadd hB dL_hides_128 ?_
                refine g_top (nI (5 * c' + 4)) (nI_add _ _) ?_
                refine g_iald hB 22 3 (5 * c' + 4) (n := 60) (by decide) rfl (by first | assumption | omega) (Nat.le_of_ble_eq_true rfl) dL_hides_129 ?_
                refine g_aload hB 6 dL_hides_130 rfl ?_
                refine g_iconst hB (nI 5) dL_hides_132 rfl ?_
                refine g_iload hB 8 dL_hides_133 rfl ?_
                refine g_bipush hB (nI 100) dL_hides_135 rfl ?_
                refine g_irem hB (by decide) dL_hides_137 ?_
                refine g_top (nI (c)) (rm100 hi (by omega)) ?_
                refine g_imul hB dL_hides_138 ?_
                refine g_top (nI (5 * c)) (pk_mul _ _) ?_
                refine g_iconst hB (nI 4) dL_hides_139 rfl ?_
                refine g_iadd hB dL_hides_140 ?_
                refine g_top (nI (5 * c + 4)) (nI_add _ _) ?_
                refine g_iald hB 22 3 (5 * c + 4) (n := 60) (by decide) rfl (by first | assumption | omega) (Nat.le_of_ble_eq_true rfl) dL_hides_141 ?_
                refine g_icmp_le hB 149 dL_hides_142 (by decide) (fun c_142 => ?_) (fun c_142 => ?_)
                · have e : hddB S nc m b k o = false := by rw [e0, decide_eq_false (show ¬ i' < i by omega), decide_eq_false (p := S 22 3 (5 * c + 4) < S 22 3 (5 * c' + 4)) (Int32.not_lt.mpr c_142), Bool.and_false]; rfl
                  refine g_iconst hB (nI 0) dL_hides_149 rfl ?_
                  refine g_istore hB 9 dL_hides_150 (by decide) ?_
                  refine g_iinc hB (nI (o + 1)) dL_hides_152 rfl (nI_1 _) (by decide) ?_
                  refine g_goto hB 21 dL_hides_155 (by decide) ?_
                  refine g_sub [(0, .int (nI m)), (1, .int (nI k)), (2, .int (bI (b))), (3, .ref (ad 22 0)), (4, .ref (ad 22 1)), (5, .ref (ad 22 2)), (6, .ref (ad 22 3)), (7, .ref (ad 22 6)), (8, .int (nI (100 * i + c))), (9, .int (bI (false))), (10, .int (nI (o + 1)))] rfl (hih ho _ (by rw [e, c_92]; rfl))
                · have e : hddB S nc m b k o = true := by rw [e0, decide_eq_true (show i = i' by omega), decide_eq_true (p := S 22 3 (5 * c + 4) < S 22 3 (5 * c' + 4)) (Int32.not_le.mp c_142), Bool.and_self, Bool.or_true]
                  refine g_iconst hB (nI 1) dL_hides_145 rfl ?_
                  refine g_goto hB 150 dL_hides_146 (by decide) ?_
                  refine g_istore hB 9 dL_hides_150 (by decide) ?_
                  refine g_iinc hB (nI (o + 1)) dL_hides_152 rfl (nI_1 _) (by decide) ?_
                  refine g_goto hB 21 dL_hides_155 (by decide) ?_
                  refine g_sub [(0, .int (nI m)), (1, .int (nI k)), (2, .int (bI (b))), (3, .ref (ad 22 0)), (4, .ref (ad 22 1)), (5, .ref (ad 22 2)), (6, .ref (ad 22 3)), (7, .ref (ad 22 6)), (8, .int (nI (100 * i + c))), (9, .int (bI (true))), (10, .int (nI (o + 1)))] rfl (hih ho _ (by rw [e, c_92]; rfl))
        refine g_iload hB 10 dL_hides_21 rfl ?_
        refine g_iconst hB (nI 4) dL_hides_23 rfl ?_
        refine n_icmp_ge hB o 4 158 dL_hides_24 (by decide) (by omega) (by omega) (fun c_24 => ?_) (fun c_24 => ?_)
        · have ho4 : o = 4 := by omega
          subst ho4
          refine g_iload hB 9 dL_hides_158 rfl ?_
          exact g_iret hB hr (nar_b _) (Nat.le_of_ble_eq_true rfl) (Nat.le_of_ble_eq_true rfl) (⟨by rw [ha], rfl⟩) dL_hides_160
        · refine g_iload hB 8 dL_hides_27 rfl ?_
          refine n_if_lt (tgt := 158) hB _ dL_hides_29 (by decide) (by omega) ?_
          refine g_aload hB 7 dL_hides_32 rfl ?_
          refine g_iload_n hB 1 dL_hides_34 rfl rfl ?_
          refine g_iald hB 22 6 k (n := 4) (by decide) rfl (by first | assumption | omega) (Nat.le_of_ble_eq_true rfl) dL_hides_35 ?_
          refine g_iload hB 10 dL_hides_36 rfl ?_
          refine g_ishr hB dL_hides_38 ?_
          refine g_iconst hB (nI 1) dL_hides_39 rfl ?_
          refine g_iand hB dL_hides_40 ?_
          refine g_iconst hB (nI 1) dL_hides_41 rfl ?_
          refine g_icmp_ne hB 62 dL_hides_42 (by decide) (fun c_42 => ?_) (fun c_42 => ?_)
          · have hbit : bitI (S 18 15 k) (nI o) = false := by rw [← hE k hk o c_24, cnt_bit]; exact decide_eq_false c_42
            have e : hddB S nc m b k o = false := by unfold hddB; rw [hbit]; rfl
            refine g_iconst hB (-1) dL_hides_62 rfl ?_
            exact g_sub _ rfl (none_ c_24 e)
          · have hbit : bitI (S 18 15 k) (nI o) = true := by rw [← hE k hk o c_24, cnt_bit]; exact decide_eq_true c_42
            refine g_iload_n hB 0 dL_hides_45 rfl rfl ?_
            refine g_iload hB 10 dL_hides_46 rfl ?_
            refine g_iload_n hB 2 dL_hides_48 rfl rfl ?_
            refine g_aload_n hB 3 dL_hides_49 rfl rfl ?_
            refine g_aload hB 4 dL_hides_50 rfl ?_
            refine g_aload hB 5 dL_hides_52 rfl ?_
            refine g_aload hB 6 dL_hides_54 rfl ?_
            refine g_callSI hB (c_L_decides _ ng nm nc t pa rk hL0 hR m hm o c_24 b) k_L_57 yk_L_decides ⟨Nat.le_of_ble_eq_true rfl, Nat.le_of_ble_eq_true rfl⟩ rfl (Nat.le_of_ble_eq_true rfl) ⟨Nat.le_of_ble_eq_true rfl, Nat.le_of_ble_eq_true rfl⟩ dL_hides_56 ?_
            rintro _ _ ⟨rfl, rfl⟩
            refine g_goto hB 63 dL_hides_59 (by decide) ?_
            rcases dcV_T hL0 hR hm c_24 b with ⟨f1, f2⟩ | ⟨i', c', w', f1, f2, f3, f4, f5, f6⟩
            · refine g_top (-1) f1 ?_
              refine g_sub _ rfl (none_ c_24 ?_)
              unfold hddB
              rw [f2, decide_eq_false (p := ((-1, -1, -1) : Int32 × Int32 × Int32).1 ≠ -1) (fun z => z rfl), Bool.false_and, Bool.and_false, Bool.and_false]
            · refine g_top (nI (100 * i' + c')) f4 ?_
              exact g_sub _ rfl (some_ c_24 hbit i' c' w' f1 f2 f3 f5)
    refine g_iload_n hB 0 dL_hides_0 rfl rfl ?_
    refine g_iload_n hB 1 dL_hides_1 rfl rfl ?_
    refine g_iload_n hB 2 dL_hides_2 rfl rfl ?_
    refine g_aload_n hB 3 dL_hides_3 rfl rfl ?_
    refine g_aload hB 4 dL_hides_4 rfl ?_
    refine g_aload hB 5 dL_hides_6 rfl ?_
    refine g_aload hB 6 dL_hides_8 rfl ?_
    refine g_callSI hB (c_L_decides _ ng nm nc t pa rk hL0 hR m hm k hk b) k_L_57 yk_L_decides ⟨Nat.le_of_ble_eq_true rfl, Nat.le_of_ble_eq_true rfl⟩ rfl (Nat.le_of_ble_eq_true rfl) ⟨Nat.le_of_ble_eq_true rfl, Nat.le_of_ble_eq_true rfl⟩ dL_hides_10 ?_
    rintro _ _ ⟨rfl, rfl⟩
    refine g_top (nI (100 * i + c)) (d1) ?_
    refine g_istore hB 8 dL_hides_13 (by decide) ?_
    refine g_iconst hB (nI 0) dL_hides_15 rfl ?_
    refine g_istore hB 9 dL_hides_16 (by decide) ?_
    refine g_iconst hB (nI 0) dL_hides_18 rfl ?_
    refine g_istore hB 10 dL_hides_19 (by decide) ?_
    exact g_sub [(0, .int (nI m)), (1, .int (nI k)), (2, .int (bI (b))), (3, .ref (ad 22 0)), (4, .ref (ad 22 1)), (5, .ref (ad 22 2)), (6, .ref (ad 22 3)), (7, .ref (ad 22 6)), (8, .int (nI (100 * i + c))), (9, .int (bI (false))), (10, .int (nI 0))] rfl (loop 5 0 false (by omega) (by omega) rfl)
end L2
