/-! the reference: its small methods -/
section M1
variable {l : Launch} {D : va_G} {ad : Nat → Nat → Nat} {ca : Nat → ClassId} {SR : List (String × Nat × String)}
theorem c_X6_thrown (S : Mem) : CI l yX6_thrown cX6_thrown 1 (some .int) { frames := 0, cells := 0, slots := 0, locals := 0 } D ad CNT ca SR (SH ad ca S) [.ref (ad 17 0)] (PR ad ca (S 17 0 0) S) := by
  refine CI.of _ RX6 (by decide +kernel) rfl (Nat.le_of_ble_eq_true rfl) ?_
  intro p9 e9 s9 m9 a9 b9 me9 c9 A9 hB hr hnm9
  refine g_aload_n hB 0 dX6_thrown_0 rfl rfl ?_
  refine g_get (ci := 6) (T := TX6) (N := 26) hB in_X6 rfl 17 0 0 (by decide) (by decide) rfl tw_fl_X6_74 rfl dX6_thrown_1 ?_
  exact g_iret hB hr rfl (Nat.le_of_ble_eq_true rfl) (Nat.le_of_ble_eq_true rfl) (⟨rfl, rfl⟩) dX6_thrown_4
theorem c_X6_fails (S : Mem) (x : Int32) : CI l yX6_fails cX6_fails 2 (some .int) { frames := 0, cells := 0, slots := 0, locals := 0 } D ad CNT ca SR (SH ad ca S) [.ref (ad 17 0), .int (x)] (PR ad ca (nI 0) (uM S 17 0 0 x)) := by
  refine CI.of _ RX6 (by decide +kernel) rfl (Nat.le_of_ble_eq_true rfl) ?_
  intro p9 e9 s9 m9 a9 b9 me9 c9 A9 hB hr hnm9
  refine g_aload_n hB 0 dX6_fails_0 rfl rfl ?_
  refine g_iload_n hB 1 dX6_fails_1 rfl rfl ?_
  refine s_put (ci := 6) (T := TX6) (N := 26) hB in_X6 rfl tyX6 tyX6_ok nmX6 17 0 0 (by decide) (by decide) rfl rfl tw_fl_X6_74 rfl rfl rfl (Nat.le_of_ble_eq_true rfl) dX6_fails_2 ?_
  refine g_iconst hB (nI 0) dX6_fails_5 rfl ?_
  exact g_iret hB hr rfl (Nat.le_of_ble_eq_true rfl) (Nat.le_of_ble_eq_true rfl) (⟨rfl, rfl⟩) dX6_fails_6
theorem c_X6_in (S : Mem) (x lo hi : Int32) : CI l yX6_in cX6_in 3 (some .boolean) { frames := 0, cells := 0, slots := 0, locals := 0 } D ad CNT ca SR (SH ad ca S) [.int (x), .int (lo), .int (hi)] (PR ad ca (bI (inR x lo hi)) S) := by
  refine CI.of _ RX6 (by decide +kernel) rfl (Nat.le_of_ble_eq_true rfl) ?_
  intro p9 e9 s9 m9 a9 b9 me9 c9 A9 hB hr hnm9
  refine g_iload_n hB 0 dX6_in_0 rfl rfl ?_
  refine g_iload_n hB 1 dX6_in_1 rfl rfl ?_
  refine g_icmp_lt hB 14 dX6_in_2 (by decide) (fun c_2 => ?_) (fun c_2 => ?_)
  · refine g_iconst hB (nI 0) dX6_in_14 rfl ?_
    exact g_iret hB hr rfl (Nat.le_of_ble_eq_true rfl) (Nat.le_of_ble_eq_true rfl) (⟨by first | (rw [inR_f1 c_2]; rfl) | (rw [inR_f2 c_7]; rfl) | (rw [inR_t c_2 c_7]; rfl), rfl⟩) dX6_in_15
  · refine g_iload_n hB 0 dX6_in_5 rfl rfl ?_
    refine g_iload_n hB 2 dX6_in_6 rfl rfl ?_
    refine g_icmp_gt hB 14 dX6_in_7 (by decide) (fun c_7 => ?_) (fun c_7 => ?_)
    · refine g_iconst hB (nI 0) dX6_in_14 rfl ?_
      exact g_iret hB hr rfl (Nat.le_of_ble_eq_true rfl) (Nat.le_of_ble_eq_true rfl) (⟨by first | (rw [inR_f1 c_2]; rfl) | (rw [inR_f2 c_7]; rfl) | (rw [inR_t c_2 c_7]; rfl), rfl⟩) dX6_in_15
    · refine g_iconst hB (nI 1) dX6_in_10 rfl ?_
      refine g_goto hB 15 dX6_in_11 (by decide) ?_
      exact g_iret hB hr rfl (Nat.le_of_ble_eq_true rfl) (Nat.le_of_ble_eq_true rfl) (⟨by first | (rw [inR_f1 c_2]; rfl) | (rw [inR_f2 c_7]; rfl) | (rw [inR_t c_2 c_7]; rfl), rfl⟩) dX6_in_15
theorem c_X6_isPerson (S : Mem) (x : Int32) : CI l yX6_isPerson cX6_isPerson 1 (some .boolean) { frames := 1, cells := 0, slots := 0, locals := 22 } D ad CNT ca SR (SH ad ca S) [.int (x)] (PR ad ca (bI (rgB x 8)) S) := by
  refine CI.of _ RX6 (by decide +kernel) rfl (Nat.le_of_ble_eq_true rfl) ?_
  intro p9 e9 s9 m9 a9 b9 me9 c9 A9 hB hr hnm9
  refine g_iload_n hB 0 dX6_isPerson_0 rfl rfl ?_
  refine g_iconst hB (nI 0) dX6_isPerson_1 rfl ?_
  refine g_bipush hB (nI 7) dX6_isPerson_2 rfl ?_
  refine g_callSI hB (c_X6_in S _ _ _) k_X6_77 yk_X6_in ⟨Nat.le_of_ble_eq_true rfl, Nat.le_of_ble_eq_true rfl⟩ rfl (Nat.le_of_ble_eq_true rfl) ⟨Nat.le_of_ble_eq_true rfl, Nat.le_of_ble_eq_true rfl⟩ dX6_isPerson_4 ?_
  rintro _ _ ⟨rfl, rfl⟩
  exact g_iret hB hr (nar_b _) (Nat.le_of_ble_eq_true rfl) (Nat.le_of_ble_eq_true rfl) (⟨by rw [inR_rg 7 (by omega)], rfl⟩) dX6_isPerson_7
theorem c_X6_isKey (S : Mem) (x : Int32) : CI l yX6_isKey cX6_isKey 1 (some .boolean) { frames := 1, cells := 0, slots := 0, locals := 22 } D ad CNT ca SR (SH ad ca S) [.int (x)] (PR ad ca (bI (rgB x 6)) S) := by
  refine CI.of _ RX6 (by decide +kernel) rfl (Nat.le_of_ble_eq_true rfl) ?_
  intro p9 e9 s9 m9 a9 b9 me9 c9 A9 hB hr hnm9
  refine g_iload_n hB 0 dX6_isKey_0 rfl rfl ?_
  refine g_iconst hB (nI 0) dX6_isKey_1 rfl ?_
  refine g_iconst hB (nI 5) dX6_isKey_2 rfl ?_
  refine g_callSI hB (c_X6_in S _ _ _) k_X6_77 yk_X6_in ⟨Nat.le_of_ble_eq_true rfl, Nat.le_of_ble_eq_true rfl⟩ rfl (Nat.le_of_ble_eq_true rfl) ⟨Nat.le_of_ble_eq_true rfl, Nat.le_of_ble_eq_true rfl⟩ dX6_isKey_3 ?_
  rintro _ _ ⟨rfl, rfl⟩
  exact g_iret hB hr (nar_b _) (Nat.le_of_ble_eq_true rfl) (Nat.le_of_ble_eq_true rfl) (⟨by rw [inR_rg 5 (by omega)], rfl⟩) dX6_isKey_6
theorem c_X6_isGroup (S : Mem) (x : Int32) (n : Nat) (h : S 17 0 4 = nI n) (hn : n ≤ 10) : CI l yX6_isGroup cX6_isGroup 2 (some .boolean) { frames := 1, cells := 0, slots := 0, locals := 22 } D ad CNT ca SR (SH ad ca S) [.ref (ad 17 0), .int (x)] (PR ad ca (bI (rgB x n)) S) := by
  refine CI.of _ RX6 (by decide +kernel) rfl (Nat.le_of_ble_eq_true rfl) ?_
  intro p9 e9 s9 m9 a9 b9 me9 c9 A9 hB hr hnm9
  refine g_iload_n hB 1 dX6_isGroup_0 rfl rfl ?_
  refine g_iconst hB (nI 0) dX6_isGroup_1 rfl ?_
  refine g_aload_n hB 0 dX6_isGroup_2 rfl rfl ?_
  refine g_get (ci := 6) (T := TX6) (N := 26) hB in_X6 rfl 17 0 4 (by decide) (by decide) rfl tw_fl_X6_16 rfl dX6_isGroup_3 ?_
  refine g_top (nI n) (h) ?_
  refine g_iconst hB (nI 1) dX6_isGroup_6 rfl ?_
  refine g_isub hB dX6_isGroup_7 ?_
  refine g_callSI hB (c_X6_in S _ _ _) k_X6_77 yk_X6_in ⟨Nat.le_of_ble_eq_true rfl, Nat.le_of_ble_eq_true rfl⟩ rfl (Nat.le_of_ble_eq_true rfl) ⟨Nat.le_of_ble_eq_true rfl, Nat.le_of_ble_eq_true rfl⟩ dX6_isGroup_8 ?_
  rintro _ _ ⟨rfl, rfl⟩
  exact g_iret hB hr (nar_b _) (Nat.le_of_ble_eq_true rfl) (Nat.le_of_ble_eq_true rfl) (⟨by rw [inR_0 (by omega)], rfl⟩) dX6_isGroup_11
theorem c_X6_isMachine (S : Mem) (x : Int32) (n : Nat) (h : S 17 0 6 = nI n) (hn : n ≤ 12) : CI l yX6_isMachine cX6_isMachine 2 (some .boolean) { frames := 1, cells := 0, slots := 0, locals := 22 } D ad CNT ca SR (SH ad ca S) [.ref (ad 17 0), .int (x)] (PR ad ca (bI (rgB x n)) S) := by
  refine CI.of _ RX6 (by decide +kernel) rfl (Nat.le_of_ble_eq_true rfl) ?_
  intro p9 e9 s9 m9 a9 b9 me9 c9 A9 hB hr hnm9
  refine g_iload_n hB 1 dX6_isMachine_0 rfl rfl ?_
  refine g_iconst hB (nI 0) dX6_isMachine_1 rfl ?_
  refine g_aload_n hB 0 dX6_isMachine_2 rfl rfl ?_
  refine g_get (ci := 6) (T := TX6) (N := 26) hB in_X6 rfl 17 0 6 (by decide) (by decide) rfl tw_fl_X6_81 rfl dX6_isMachine_3 ?_
  refine g_top (nI n) (h) ?_
  refine g_iconst hB (nI 1) dX6_isMachine_6 rfl ?_
  refine g_isub hB dX6_isMachine_7 ?_
  refine g_callSI hB (c_X6_in S _ _ _) k_X6_77 yk_X6_in ⟨Nat.le_of_ble_eq_true rfl, Nat.le_of_ble_eq_true rfl⟩ rfl (Nat.le_of_ble_eq_true rfl) ⟨Nat.le_of_ble_eq_true rfl, Nat.le_of_ble_eq_true rfl⟩ dX6_isMachine_8 ?_
  rintro _ _ ⟨rfl, rfl⟩
  exact g_iret hB hr (nar_b _) (Nat.le_of_ble_eq_true rfl) (Nat.le_of_ble_eq_true rfl) (⟨by rw [inR_0 (by omega)], rfl⟩) dX6_isMachine_11
theorem c_X6_isChange (S : Mem) (x : Int32) (n : Nat) (h : S 17 0 11 = nI n) (hn : n ≤ 40) : CI l yX6_isChange cX6_isChange 2 (some .boolean) { frames := 1, cells := 0, slots := 0, locals := 22 } D ad CNT ca SR (SH ad ca S) [.ref (ad 17 0), .int (x)] (PR ad ca (bI (rgB x n)) S) := by
  refine CI.of _ RX6 (by decide +kernel) rfl (Nat.le_of_ble_eq_true rfl) ?_
  intro p9 e9 s9 m9 a9 b9 me9 c9 A9 hB hr hnm9
  refine g_iload_n hB 1 dX6_isChange_0 rfl rfl ?_
  refine g_iconst hB (nI 0) dX6_isChange_1 rfl ?_
  refine g_aload_n hB 0 dX6_isChange_2 rfl rfl ?_
  refine g_get (ci := 6) (T := TX6) (N := 26) hB in_X6 rfl 17 0 11 (by decide) (by decide) rfl tw_fl_X6_84 rfl dX6_isChange_3 ?_
  refine g_top (nI n) (h) ?_
  refine g_iconst hB (nI 1) dX6_isChange_6 rfl ?_
  refine g_isub hB dX6_isChange_7 ?_
  refine g_callSI hB (c_X6_in S _ _ _) k_X6_77 yk_X6_in ⟨Nat.le_of_ble_eq_true rfl, Nat.le_of_ble_eq_true rfl⟩ rfl (Nat.le_of_ble_eq_true rfl) ⟨Nat.le_of_ble_eq_true rfl, Nat.le_of_ble_eq_true rfl⟩ dX6_isChange_8 ?_
  rintro _ _ ⟨rfl, rfl⟩
  exact g_iret hB hr (nar_b _) (Nat.le_of_ble_eq_true rfl) (Nat.le_of_ble_eq_true rfl) (⟨by rw [inR_0 (by omega)], rfl⟩) dX6_isChange_11
theorem c_X6_cells (S : Mem) (m k : Nat) : CI l yX6_cells cX6_cells 3 (some .int) { frames := 0, cells := 0, slots := 0, locals := 0 } D ad CNT ca SR (SH ad ca S) [.ref (ad 17 0), .int (nI m), .int (nI k)] (PR ad ca (nI (6 * (11 * m + k))) S) := by
  refine CI.of _ RX6 (by decide +kernel) rfl (Nat.le_of_ble_eq_true rfl) ?_
  intro p9 e9 s9 m9 a9 b9 me9 c9 A9 hB hr hnm9
  refine g_bipush hB (nI 6) dX6_cells_0 rfl ?_
  refine g_bipush hB (nI 11) dX6_cells_2 rfl ?_
  refine g_iload_n hB 1 dX6_cells_4 rfl rfl ?_
  refine g_imul hB dX6_cells_5 ?_
  refine g_top (nI (11 * m)) (pk_mul _ _) ?_
  refine g_iload_n hB 2 dX6_cells_6 rfl rfl ?_
  refine g_iadd hB dX6_cells_7 ?_
  refine g_top (nI (11 * m + k)) (nI_add _ _) ?_
  refine g_imul hB dX6_cells_8 ?_
  refine g_top (nI (6 * (11 * m + k))) (pk_mul _ _) ?_
  exact g_iret hB hr rfl (Nat.le_of_ble_eq_true rfl) (Nat.le_of_ble_eq_true rfl) (⟨rfl, rfl⟩) dX6_cells_9
def mGood (S : Mem) (c : Nat) : Nat := cntB (fun p => decide (S 18 13 (8 * c + p) = nI 1)) 8
theorem c_X6_good (S : Mem) (c : Nat) (hc : c < 40) : CI l yX6_good cX6_good 4 (some .int) { frames := 0, cells := 0, slots := 0, locals := 0 } D ad CNT ca SR (SH ad ca S) [.ref (ad 17 0), .int (nI c)] (PR ad ca (nI (mGood S c)) S) := by
  refine CI.of _ RX6 (by decide +kernel) rfl (Nat.le_of_ble_eq_true rfl) ?_
  intro p9 e9 s9 m9 a9 b9 me9 c9 A9 hB hr hnm9
  have loop : ∀ (n k a : Nat), 8 - k < n → k ≤ 8 → a = cntB (fun p => decide (S 18 13 (8 * c + p) = nI 1)) k → G p9 l e9 { frames := 0, cells := 0, slots := 0, locals := 0 } s9 m9 a9 b9 me9 c9 D ad A9 4 (MQ b9 (va_Qi (PR ad ca (nI (mGood S c)) S) (fun E' t => WW D ad CNT A9 E' t.heap) A9) a9 s9 0 0 A9) 0 0 CNT (SH ad ca (S)) 4 [(0, .ref (ad 17 0)), (1, .int (nI c)), (2, .int (nI a)), (3, .int (nI k))] [] := by
    intro n
    induction n with
    | zero => intro k a h1 h2; omega
    | succ n ih =>
      intro k a h1 h2 ha
      refine g_iload_n hB 3 dX6_good_4 rfl rfl ?_
      refine g_bipush hB (nI 8) dX6_good_5 rfl ?_
      refine n_icmp_ge hB k 8 39 dX6_good_7 (by decide) (by omega) (by omega) (fun c_7 => ?_) (fun c_7 => ?_)
      · have hk : k = 8 := by omega
        subst hk
        refine g_iload_n hB 2 dX6_good_39 rfl rfl ?_
        exact g_iret hB hr rfl (Nat.le_of_ble_eq_true rfl) (Nat.le_of_ble_eq_true rfl) (⟨by rw [ha]; rfl, rfl⟩) dX6_good_40
      · refine g_iload_n hB 2 dX6_good_10 rfl rfl ?_
        refine g_aload_n hB 0 dX6_good_11 rfl rfl ?_
        refine g_get (ci := 6) (T := TX6) (N := 26) hB in_X6 rfl 17 0 20 (by decide) (by decide) rfl tw_fl_X6_56 rfl dX6_good_12 ?_
        refine g_bipush hB (nI 8) dX6_good_15 rfl ?_
        refine g_iload_n hB 1 dX6_good_17 rfl rfl ?_
        refine g_imul hB dX6_good_18 ?_
        refine g_top (nI (8 * c)) (pk_mul _ _) ?_
        refine g_iload_n hB 3 dX6_good_19 rfl rfl ?_
        refine g_iadd hB dX6_good_20 ?_
        refine g_top (nI (8 * c + k)) (nI_add _ _) ?_
        refine g_iald hB 18 13 (8 * c + k) (n := 320) (by decide) rfl (by first | assumption | omega) (Nat.le_of_ble_eq_true rfl) dX6_good_21 ?_
        refine g_iconst hB (nI 1) dX6_good_22 rfl ?_
        refine g_icmp_ne hB 30 dX6_good_23 (by decide) (fun c_23 => ?_) (fun c_23 => ?_)
        · refine g_iconst hB (nI 0) dX6_good_30 rfl ?_
          refine g_iadd hB dX6_good_31 ?_
          refine g_top (nI (a + 0)) (nI_add _ _) ?_
          refine g_istore_n hB 2 dX6_good_32 rfl (by decide) ?_
          refine g_iinc hB (nI (k + 1)) dX6_good_33 rfl (nI_1 _) (by decide) ?_
          refine g_goto hB 4 dX6_good_36 (by decide) ?_
          exact g_sub _ rfl (ih (k + 1) _ (by omega) (by omega) (by simp [cntB, c_23, ha]))
        · refine g_iconst hB (nI 1) dX6_good_26 rfl ?_
          refine g_goto hB 31 dX6_good_27 (by decide) ?_
          refine g_iadd hB dX6_good_31 ?_
          refine g_top (nI (a + 1)) (nI_add _ _) ?_
          refine g_istore_n hB 2 dX6_good_32 rfl (by decide) ?_
          refine g_iinc hB (nI (k + 1)) dX6_good_33 rfl (nI_1 _) (by decide) ?_
          refine g_goto hB 4 dX6_good_36 (by decide) ?_
          exact g_sub _ rfl (ih (k + 1) _ (by omega) (by omega) (by simp [cntB, c_23, ha]))
  refine g_iconst hB (nI 0) dX6_good_0 rfl ?_
  refine g_istore_n hB 2 dX6_good_1 rfl (by decide) ?_
  refine g_iconst hB (nI 0) dX6_good_2 rfl ?_
  refine g_istore_n hB 3 dX6_good_3 rfl (by decide) ?_
  exact g_sub _ rfl (loop 9 0 0 (by omega) (by omega) rfl)
end M1
