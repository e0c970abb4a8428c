/-! the reference's constructor -/
section X12
variable {l : Launch} {D : va_G} {ad : Nat → Nat → Nat} {ca : Nat → ClassId} {SR : List (String × Nat × String)}
theorem df_X6 : ∀ j, j < 26 → defaultValue (tyX6 j) = vp_V [.int 0, .int 0, .null, .null, .int 0, .null, .int 0, .int 0, .null, .null, .null, .int 0, .int 0, .null, .null, .null, .null, .null, .null, .null, .null, .null, .null, .null, .null, .null] j := by decide +kernel
theorem df_X5 : ∀ j, j < 16 → defaultValue (tyX5 j) = vp_V [.int 0, .int 0, .null, .null, .null, .int 0, .null, .int 0, .null, .int 0, .int 0, .int 0, .null, .null, .null, .null] j := by decide +kernel
def cnM (n : Nat) : Nat → Nat := fun k => if k = 17 then 1 else if k = 18 then n else cnI 8 12 40 k

theorem c_X6_init (E : Rl) (hE : E 17 0 = .inr (6, [.int 0, .int 0, .null, .null, .int 0, .null, .int 0, .int 0, .null, .null, .null, .int 0, .int 0, .null, .null, .null, .null, .null, .null, .null, .null, .null, .null, .null, .null, .null])) : CN l yX6_init cX6_init 2 { frames := 1, cells := 19, slots := 1782, locals := 12 } D ad (cnM 0) ca SR E [.ref (ad 17 0)] (cnM 19) (fun ad' E' => (∀ k i, k ≠ 18 → ad' k i = ad k i) ∧ (∀ k i, k ≠ 17 → k ≠ 18 → E' k i = E k i) ∧ E' 17 0 = cellOf ad' ca 17 0 (S00 17 0) ∧ ∀ i, i < 19 → E' 18 i = cellOf ad' ca 18 i (S00 18 i)) := by
  refine CN.of _ RX6 (by decide +kernel) rfl (Nat.le_of_ble_eq_true rfl) ?_
  intro p9 e9 s9 m9 a9 b9 me9 c9 A9 hB hr hnm
  have ph3 : ∀ ad' E1, (∀ k i, k ≠ 18 → ad' k i = ad k i) → (∀ k i, k ≠ 17 → k ≠ 18 → E1 k i = E k i) → E1 17 0 = cellOf ad' ca 17 0 (S00 17 0) → (∀ i, i < 19 → E1 18 i = .inl (ca 0, mlen i, .inl z0)) →  G p9 l e9 { frames := 1, cells := 19, slots := 1782, locals := 12 } s9 m9 a9 b9 me9 c9 D ad' A9 2 (QN b9 (fun ad' E' => (∀ k i, k ≠ 18 → ad' k i = ad k i) ∧ (∀ k i, k ≠ 17 → k ≠ 18 → E' k i = E k i) ∧ E' 17 0 = cellOf ad' ca 17 0 (S00 17 0) ∧ ∀ i, i < 19 → E' 18 i = cellOf ad' ca 18 i (S00 18 i)) D (cnM 19) A9 a9 s9 19 1782) 19 1782 (cnM 19) (uE E1 18 0 (.inl (ca 0, 4, .inl (ovl z0 0 4 (fun _ => nI 255))))) 191 [(0, .ref (ad' 17 0))] [] := by
    intro ad' E1 had hlow h17 h18
    have loop : ∀ (n i : Nat), 792 - i < n → i ≤ 792 → G p9 l e9 { frames := 1, cells := 19, slots := 1782, locals := 12 } s9 m9 a9 b9 me9 c9 D ad' A9 2 (QN b9 (fun ad' E' => (∀ k i, k ≠ 18 → ad' k i = ad k i) ∧ (∀ k i, k ≠ 17 → k ≠ 18 → E' k i = E k i) ∧ E' 17 0 = cellOf ad' ca 17 0 (S00 17 0) ∧ ∀ i, i < 19 → E' 18 i = cellOf ad' ca 18 i (S00 18 i)) D (cnM 19) A9 a9 s9 19 1782) 19 1782 (cnM 19) (uE (uE E1 18 0 (.inl (ca 0, 4, .inl (ovl z0 0 4 (fun _ => nI 255))))) 18 5 (.inl (ca 0, 792, .inl (ovl z0 0 i (fun _ => -1))))) 193 [(0, .ref (ad' 17 0)), (1, .int (nI i))] [] := by
      intro n
      induction n with
      | zero => intro i h1; omega
      | succ n ih =>
        intro i h1 h2
        have h5 : (uE (uE E1 18 0 (.inl (ca 0, 4, .inl (ovl z0 0 4 (fun _ => nI 255))))) 18 5 (.inl (ca 0, 792, .inl (ovl z0 0 i (fun _ => -1))))) 17 0 = cellOf ad' ca 17 0 (S00 17 0) := (uE_n (fun z => absurd z.1 (by decide))).trans ((uE_n (fun z => absurd z.1 (by decide))).trans h17)
        refine g_iload_n hB 1 dX6_init_193 rfl rfl ?_
        refine g_sipush hB (nI 792) dX6_init_194 rfl ?_
        refine n_icmp_ge hB i 792 213 dX6_init_197 (by decide) (by omega) (by omega) (fun c_1 => ?_) (fun c_1 => ?_)
        · have hk : i = 792 := by omega
          subst hk
          refine g_aload_n hB 0 dX6_init_213 rfl rfl ?_
          refine g_get (ci := 6) (T := TX6) (N := 26) hB in_X6 rfl 17 0 5 (by decide) (by decide) h5 tw_fl_X6_20 rfl dX6_init_214 ?_
          refine g_iconst hB (nI 0) dX6_init_217 rfl ?_
          refine g_iconst hB (-1) dX6_init_218 rfl ?_
          refine g_iast hB 18 2 0 (n := 10) (f := z0) (by decide) ((uE_n (fun z => absurd z.2 (by decide))).trans ((uE_n (fun z => absurd z.2 (by decide))).trans (h18 2 (by decide)))) (by decide) (by decide) dX6_init_219 ?_
          refine g_nret hB hr (Nat.le_of_ble_eq_true rfl) (Nat.le_of_ble_eq_true rfl) ⟨had, fun k i hk hk2 => ?_, ?_, fun i hi => ?_⟩ dX6_init_220
          · exact (uE_n (fun z => by omega)).trans ((uE_n (fun z => by omega)).trans ((uE_n (fun z => by omega)).trans (hlow k i hk hk2)))
          · exact (uE_n (fun z => absurd z.1 (by decide))).trans h5
          · match i, hi with
            | 0, _ => rfl
            | 2, _ => rfl
            | 5, _ => rfl
            | 1, hi => exact (uE_n (fun z => absurd z.2 (by decide))).trans ((uE_n (fun z => absurd z.2 (by decide))).trans ((uE_n (fun z => absurd z.2 (by decide))).trans (h18 1 hi)))
            | 3, hi => exact (uE_n (fun z => absurd z.2 (by decide))).trans ((uE_n (fun z => absurd z.2 (by decide))).trans ((uE_n (fun z => absurd z.2 (by decide))).trans (h18 3 hi)))
            | 4, hi => exact (uE_n (fun z => absurd z.2 (by decide))).trans ((uE_n (fun z => absurd z.2 (by decide))).trans ((uE_n (fun z => absurd z.2 (by decide))).trans (h18 4 hi)))
            | 6, hi => exact (uE_n (fun z => absurd z.2 (by decide))).trans ((uE_n (fun z => absurd z.2 (by decide))).trans ((uE_n (fun z => absurd z.2 (by decide))).trans (h18 6 hi)))
            | 7, hi => exact (uE_n (fun z => absurd z.2 (by decide))).trans ((uE_n (fun z => absurd z.2 (by decide))).trans ((uE_n (fun z => absurd z.2 (by decide))).trans (h18 7 hi)))
            | 8, hi => exact (uE_n (fun z => absurd z.2 (by decide))).trans ((uE_n (fun z => absurd z.2 (by decide))).trans ((uE_n (fun z => absurd z.2 (by decide))).trans (h18 8 hi)))
            | 9, hi => exact (uE_n (fun z => absurd z.2 (by decide))).trans ((uE_n (fun z => absurd z.2 (by decide))).trans ((uE_n (fun z => absurd z.2 (by decide))).trans (h18 9 hi)))
            | 10, hi => exact (uE_n (fun z => absurd z.2 (by decide))).trans ((uE_n (fun z => absurd z.2 (by decide))).trans ((uE_n (fun z => absurd z.2 (by decide))).trans (h18 10 hi)))
            | 11, hi => exact (uE_n (fun z => absurd z.2 (by decide))).trans ((uE_n (fun z => absurd z.2 (by decide))).trans ((uE_n (fun z => absurd z.2 (by decide))).trans (h18 11 hi)))
            | 12, hi => exact (uE_n (fun z => absurd z.2 (by decide))).trans ((uE_n (fun z => absurd z.2 (by decide))).trans ((uE_n (fun z => absurd z.2 (by decide))).trans (h18 12 hi)))
            | 13, hi => exact (uE_n (fun z => absurd z.2 (by decide))).trans ((uE_n (fun z => absurd z.2 (by decide))).trans ((uE_n (fun z => absurd z.2 (by decide))).trans (h18 13 hi)))
            | 14, hi => exact (uE_n (fun z => absurd z.2 (by decide))).trans ((uE_n (fun z => absurd z.2 (by decide))).trans ((uE_n (fun z => absurd z.2 (by decide))).trans (h18 14 hi)))
            | 15, hi => exact (uE_n (fun z => absurd z.2 (by decide))).trans ((uE_n (fun z => absurd z.2 (by decide))).trans ((uE_n (fun z => absurd z.2 (by decide))).trans (h18 15 hi)))
            | 16, hi => exact (uE_n (fun z => absurd z.2 (by decide))).trans ((uE_n (fun z => absurd z.2 (by decide))).trans ((uE_n (fun z => absurd z.2 (by decide))).trans (h18 16 hi)))
            | 17, hi => exact (uE_n (fun z => absurd z.2 (by decide))).trans ((uE_n (fun z => absurd z.2 (by decide))).trans ((uE_n (fun z => absurd z.2 (by decide))).trans (h18 17 hi)))
            | 18, hi => exact (uE_n (fun z => absurd z.2 (by decide))).trans ((uE_n (fun z => absurd z.2 (by decide))).trans ((uE_n (fun z => absurd z.2 (by decide))).trans (h18 18 hi)))
            | (n + 19), hi => exact absurd hi (by omega)
        · refine g_aload_n hB 0 dX6_init_200 rfl rfl ?_
          refine g_get (ci := 6) (T := TX6) (N := 26) hB in_X6 rfl 17 0 10 (by decide) (by decide) h5 tw_fl_X6_32 rfl dX6_init_201 ?_
          refine g_iload_n hB 1 dX6_init_204 rfl rfl ?_
          refine g_iconst hB (-1) dX6_init_205 rfl ?_
          refine g_iast hB 18 5 i (n := 792) (by decide) uE_s c_1 (by decide) dX6_init_206 ?_
          rw [uE_uE, ovl0_s]
          refine g_iinc hB (nI (i + 1)) dX6_init_207 rfl (nI_1 _) (by decide) ?_
          refine g_goto hB 193 dX6_init_210 (by decide) ?_
          exact g_sub _ rfl (ih (i + 1) (by omega) (by omega))
    refine g_iconst hB (nI 0) dX6_init_191 rfl ?_
    refine g_istore_n hB 1 dX6_init_192 rfl (by decide) ?_
    refine g_E (E' := (uE (uE E1 18 0 (.inl (ca 0, 4, .inl (ovl z0 0 4 (fun _ => nI 255))))) 18 5 (.inl (ca 0, 792, .inl (ovl z0 0 0 (fun _ => -1)))))) (fun k i _ => ?_) (g_sub _ rfl (loop 793 0 (by omega) (by omega)))
    rw [ovl_0]
    by_cases hk : k = 18 ∧ i = 5
    · rw [hk.1, hk.2]
      exact ((uE_n (fun z => absurd z.2 (by decide))).trans (h18 5 (by decide))).trans uE_s.symm
    · exact (uE_n hk).symm
  have ph2 : ∀ ad' E1, (∀ k i, k ≠ 18 → ad' k i = ad k i) → (∀ k i, k ≠ 17 → k ≠ 18 → E1 k i = E k i) → E1 17 0 = cellOf ad' ca 17 0 (S00 17 0) → (∀ i, i < 19 → E1 18 i = .inl (ca 0, mlen i, .inl z0)) →  G p9 l e9 { frames := 1, cells := 19, slots := 1782, locals := 12 } s9 m9 a9 b9 me9 c9 D ad' A9 2 (QN b9 (fun ad' E' => (∀ k i, k ≠ 18 → ad' k i = ad k i) ∧ (∀ k i, k ≠ 17 → k ≠ 18 → E' k i = E k i) ∧ E' 17 0 = cellOf ad' ca 17 0 (S00 17 0) ∧ ∀ i, i < 19 → E' 18 i = cellOf ad' ca 18 i (S00 18 i)) D (cnM 19) A9 a9 s9 19 1782) 19 1782 (cnM 19) E1 169 [(0, .ref (ad' 17 0))] [] := by
    intro ad' E1 had hlow h17 h18
    have loop : ∀ (n i : Nat), 4 - i < n → i ≤ 4 → G p9 l e9 { frames := 1, cells := 19, slots := 1782, locals := 12 } s9 m9 a9 b9 me9 c9 D ad' A9 2 (QN b9 (fun ad' E' => (∀ k i, k ≠ 18 → ad' k i = ad k i) ∧ (∀ k i, k ≠ 17 → k ≠ 18 → E' k i = E k i) ∧ E' 17 0 = cellOf ad' ca 17 0 (S00 17 0) ∧ ∀ i, i < 19 → E' 18 i = cellOf ad' ca 18 i (S00 18 i)) D (cnM 19) A9 a9 s9 19 1782) 19 1782 (cnM 19) (uE E1 18 0 (.inl (ca 0, 4, .inl (ovl z0 0 i (fun _ => nI 255))))) 171 [(0, .ref (ad' 17 0)), (1, .int (nI i))] [] := by
      intro n
      induction n with
      | zero => intro i h1; omega
      | succ n ih =>
        intro i h1 h2
        have h5 : (uE E1 18 0 (.inl (ca 0, 4, .inl (ovl z0 0 i (fun _ => nI 255))))) 17 0 = cellOf ad' ca 17 0 (S00 17 0) := (uE_n (fun z => absurd z.1 (by decide))).trans h17
        refine g_iload_n hB 1 dX6_init_171 rfl rfl ?_
        refine g_iconst hB (nI 4) dX6_init_172 rfl ?_
        refine n_icmp_ge hB i 4 191 dX6_init_173 (by decide) (by omega) (by omega) (fun c_1 => ?_) (fun c_1 => ?_)
        · have hk : i = 4 := by omega
          subst hk
          exact g_sub _ rfl (ph3 ad' E1 had hlow h17 h18)
        · refine g_aload_n hB 0 dX6_init_176 rfl rfl ?_
          refine g_get (ci := 6) (T := TX6) (N := 26) hB in_X6 rfl 17 0 2 (by decide) (by decide) h5 tw_fl_X6_7 rfl dX6_init_177 ?_
          refine g_iload_n hB 1 dX6_init_180 rfl rfl ?_
          refine g_sipush hB (nI 255) dX6_init_181 rfl ?_
          refine g_iast hB 18 0 i (n := 4) (by decide) uE_s c_1 (by decide) dX6_init_184 ?_
          rw [uE_uE, ovl0_s]
          refine g_iinc hB (nI (i + 1)) dX6_init_185 rfl (nI_1 _) (by decide) ?_
          refine g_goto hB 171 dX6_init_188 (by decide) ?_
          exact g_sub _ rfl (ih (i + 1) (by omega) (by omega))
    refine g_iconst hB (nI 0) dX6_init_169 rfl ?_
    refine g_istore_n hB 1 dX6_init_170 rfl (by decide) ?_
    refine g_E (E' := uE E1 18 0 (.inl (ca 0, 4, .inl (ovl z0 0 0 (fun _ => nI 255))))) (fun k i _ => ?_) (g_sub _ rfl (loop 5 0 (by omega) (by omega)))
    rw [ovl_0]
    by_cases hk : k = 18 ∧ i = 0
    · rw [hk.1, hk.2]
      exact (h18 0 (by decide)).trans uE_s.symm
    · exact (uE_n hk).symm
  refine g_aload_n hB 0 dX6_init_0 rfl rfl ?_
  refine g_oinit hB tw_ml_X6_1 tw_im_objInit tw_code_objInit dX6_init_1 ⟨Nat.le_of_ble_eq_true rfl, Nat.le_of_ble_eq_true rfl⟩ ?_
  refine g_aload_n hB 0 dX6_init_4 rfl rfl ?_
  refine g_iconst hB (nI 4) dX6_init_5 rfl ?_
  refine g_newa hB 18 0 4 rfl (by decide) dX6_init_6 ⟨Nat.le_of_ble_eq_true rfl, Nat.le_of_ble_eq_true rfl⟩ (fun q0 => ?_)
  refine g_putF hB hnm (ci := 6) (T := TX6) (N := 26) in_X6 rfl tyX6 tyX6_ok nmX6 17 0 2 (fs := [.int 0, .int 0, .null, .null, .int 0, .null, .int 0, .int 0, .null, .null, .null, .int 0, .int 0, .null, .null, .null, .null, .null, .null, .null, .null, .null, .null, .null, .null, .null]) (v := .ref q0) (by decide) (by decide) (((uE_n (fun z => absurd z.1 (by decide))).trans (hE))) tw_fl_X6_7 rfl rfl rfl rfl (Nat.le_of_ble_eq_true rfl) dX6_init_8 ?_
  refine g_aload_n hB 0 dX6_init_11 rfl rfl ?_
  refine g_bipush hB (nI 8) dX6_init_12 rfl ?_
  refine g_newa hB 18 1 8 rfl (by decide) dX6_init_14 ⟨Nat.le_of_ble_eq_true rfl, Nat.le_of_ble_eq_true rfl⟩ (fun q1 => ?_)
  refine g_putF hB hnm (ci := 6) (T := TX6) (N := 26) in_X6 rfl tyX6 tyX6_ok nmX6 17 0 3 (fs := [.int 0, .int 0, .ref q0, .null, .int 0, .null, .int 0, .int 0, .null, .null, .null, .int 0, .int 0, .null, .null, .null, .null, .null, .null, .null, .null, .null, .null, .null, .null, .null]) (v := .ref q1) (by decide) (by decide) (((uE_n (fun z => absurd z.1 (by decide))).trans (uE_s))) tw_fl_X6_13 rfl rfl rfl rfl (Nat.le_of_ble_eq_true rfl) dX6_init_16 ?_
  refine g_aload_n hB 0 dX6_init_19 rfl rfl ?_
  refine g_iconst hB (nI 1) dX6_init_20 rfl ?_
  refine g_put hB (ci := 6) (T := TX6) (N := 26) in_X6 rfl tyX6 tyX6_ok nmX6 17 0 4 (fs := [.int 0, .int 0, .ref q0, .ref q1, .int 0, .null, .int 0, .int 0, .null, .null, .null, .int 0, .int 0, .null, .null, .null, .null, .null, .null, .null, .null, .null, .null, .null, .null, .null]) (v := .int (nI 1)) (by decide) (by decide) (uE_s) tw_fl_X6_16 rfl rfl rfl (Nat.le_of_ble_eq_true rfl) dX6_init_21 ?_
  refine g_aload_n hB 0 dX6_init_24 rfl rfl ?_
  refine g_bipush hB (nI 10) dX6_init_25 rfl ?_
  refine g_newa hB 18 2 10 rfl (by decide) dX6_init_27 ⟨Nat.le_of_ble_eq_true rfl, Nat.le_of_ble_eq_true rfl⟩ (fun q2 => ?_)
  refine g_putF hB hnm (ci := 6) (T := TX6) (N := 26) in_X6 rfl tyX6 tyX6_ok nmX6 17 0 5 (fs := [.int 0, .int 0, .ref q0, .ref q1, .int (nI 1), .null, .int 0, .int 0, .null, .null, .null, .int 0, .int 0, .null, .null, .null, .null, .null, .null, .null, .null, .null, .null, .null, .null, .null]) (v := .ref q2) (by decide) (by decide) (((uE_n (fun z => absurd z.1 (by decide))).trans (uE_s))) tw_fl_X6_20 rfl rfl rfl rfl (Nat.le_of_ble_eq_true rfl) dX6_init_29 ?_
  refine g_aload_n hB 0 dX6_init_32 rfl rfl ?_
  refine g_bipush hB (nI 12) dX6_init_33 rfl ?_
  refine g_put hB (ci := 6) (T := TX6) (N := 26) in_X6 rfl tyX6 tyX6_ok nmX6 17 0 7 (fs := [.int 0, .int 0, .ref q0, .ref q1, .int (nI 1), .ref q2, .int 0, .int 0, .null, .null, .null, .int 0, .int 0, .null, .null, .null, .null, .null, .null, .null, .null, .null, .null, .null, .null, .null]) (v := .int (nI 12)) (by decide) (by decide) (uE_s) tw_fl_X6_23 rfl rfl rfl (Nat.le_of_ble_eq_true rfl) dX6_init_35 ?_
  refine g_aload_n hB 0 dX6_init_38 rfl rfl ?_
  refine g_bipush hB (nI 12) dX6_init_39 rfl ?_
  refine g_newa hB 18 3 12 rfl (by decide) dX6_init_41 ⟨Nat.le_of_ble_eq_true rfl, Nat.le_of_ble_eq_true rfl⟩ (fun q3 => ?_)
  refine g_putF hB hnm (ci := 6) (T := TX6) (N := 26) in_X6 rfl tyX6 tyX6_ok nmX6 17 0 8 (fs := [.int 0, .int 0, .ref q0, .ref q1, .int (nI 1), .ref q2, .int 0, .int (nI 12), .null, .null, .null, .int 0, .int 0, .null, .null, .null, .null, .null, .null, .null, .null, .null, .null, .null, .null, .null]) (v := .ref q3) (by decide) (by decide) (((uE_n (fun z => absurd z.1 (by decide))).trans (uE_s))) tw_fl_X6_26 rfl rfl rfl rfl (Nat.le_of_ble_eq_true rfl) dX6_init_43 ?_
  refine g_aload_n hB 0 dX6_init_46 rfl rfl ?_
  refine g_bipush hB (nI 12) dX6_init_47 rfl ?_
  refine g_newa hB 18 4 12 rfl (by decide) dX6_init_49 ⟨Nat.le_of_ble_eq_true rfl, Nat.le_of_ble_eq_true rfl⟩ (fun q4 => ?_)
  refine g_putF hB hnm (ci := 6) (T := TX6) (N := 26) in_X6 rfl tyX6 tyX6_ok nmX6 17 0 9 (fs := [.int 0, .int 0, .ref q0, .ref q1, .int (nI 1), .ref q2, .int 0, .int (nI 12), .ref q3, .null, .null, .int 0, .int 0, .null, .null, .null, .null, .null, .null, .null, .null, .null, .null, .null, .null, .null]) (v := .ref q4) (by decide) (by decide) (((uE_n (fun z => absurd z.1 (by decide))).trans (uE_s))) tw_fl_X6_29 rfl rfl rfl rfl (Nat.le_of_ble_eq_true rfl) dX6_init_51 ?_
  refine g_aload_n hB 0 dX6_init_54 rfl rfl ?_
  refine g_sipush hB (nI 792) dX6_init_55 rfl ?_
  refine g_newa hB 18 5 792 rfl (by decide) dX6_init_58 ⟨Nat.le_of_ble_eq_true rfl, Nat.le_of_ble_eq_true rfl⟩ (fun q5 => ?_)
  refine g_putF hB hnm (ci := 6) (T := TX6) (N := 26) in_X6 rfl tyX6 tyX6_ok nmX6 17 0 10 (fs := [.int 0, .int 0, .ref q0, .ref q1, .int (nI 1), .ref q2, .int 0, .int (nI 12), .ref q3, .ref q4, .null, .int 0, .int 0, .null, .null, .null, .null, .null, .null, .null, .null, .null, .null, .null, .null, .null]) (v := .ref q5) (by decide) (by decide) (((uE_n (fun z => absurd z.1 (by decide))).trans (uE_s))) tw_fl_X6_32 rfl rfl rfl rfl (Nat.le_of_ble_eq_true rfl) dX6_init_60 ?_
  refine g_aload_n hB 0 dX6_init_63 rfl rfl ?_
  refine g_bipush hB (nI 40) dX6_init_64 rfl ?_
  refine g_newa hB 18 6 40 rfl (by decide) dX6_init_66 ⟨Nat.le_of_ble_eq_true rfl, Nat.le_of_ble_eq_true rfl⟩ (fun q6 => ?_)
  refine g_putF hB hnm (ci := 6) (T := TX6) (N := 26) in_X6 rfl tyX6 tyX6_ok nmX6 17 0 13 (fs := [.int 0, .int 0, .ref q0, .ref q1, .int (nI 1), .ref q2, .int 0, .int (nI 12), .ref q3, .ref q4, .ref q5, .int 0, .int 0, .null, .null, .null, .null, .null, .null, .null, .null, .null, .null, .null, .null, .null]) (v := .ref q6) (by decide) (by decide) (((uE_n (fun z => absurd z.1 (by decide))).trans (uE_s))) tw_fl_X6_35 rfl rfl rfl rfl (Nat.le_of_ble_eq_true rfl) dX6_init_68 ?_
  refine g_aload_n hB 0 dX6_init_71 rfl rfl ?_
  refine g_bipush hB (nI 40) dX6_init_72 rfl ?_
  refine g_newa hB 18 7 40 rfl (by decide) dX6_init_74 ⟨Nat.le_of_ble_eq_true rfl, Nat.le_of_ble_eq_true rfl⟩ (fun q7 => ?_)
  refine g_putF hB hnm (ci := 6) (T := TX6) (N := 26) in_X6 rfl tyX6 tyX6_ok nmX6 17 0 14 (fs := [.int 0, .int 0, .ref q0, .ref q1, .int (nI 1), .ref q2, .int 0, .int (nI 12), .ref q3, .ref q4, .ref q5, .int 0, .int 0, .ref q6, .null, .null, .null, .null, .null, .null, .null, .null, .null, .null, .null, .null]) (v := .ref q7) (by decide) (by decide) (((uE_n (fun z => absurd z.1 (by decide))).trans (uE_s))) tw_fl_X6_38 rfl rfl rfl rfl (Nat.le_of_ble_eq_true rfl) dX6_init_76 ?_
  refine g_aload_n hB 0 dX6_init_79 rfl rfl ?_
  refine g_bipush hB (nI 40) dX6_init_80 rfl ?_
  refine g_newa hB 18 8 40 rfl (by decide) dX6_init_82 ⟨Nat.le_of_ble_eq_true rfl, Nat.le_of_ble_eq_true rfl⟩ (fun q8 => ?_)
  refine g_putF hB hnm (ci := 6) (T := TX6) (N := 26) in_X6 rfl tyX6 tyX6_ok nmX6 17 0 15 (fs := [.int 0, .int 0, .ref q0, .ref q1, .int (nI 1), .ref q2, .int 0, .int (nI 12), .ref q3, .ref q4, .ref q5, .int 0, .int 0, .ref q6, .ref q7, .null, .null, .null, .null, .null, .null, .null, .null, .null, .null, .null]) (v := .ref q8) (by decide) (by decide) (((uE_n (fun z => absurd z.1 (by decide))).trans (uE_s))) tw_fl_X6_41 rfl rfl rfl rfl (Nat.le_of_ble_eq_true rfl) dX6_init_84 ?_
  refine g_aload_n hB 0 dX6_init_87 rfl rfl ?_
  refine g_bipush hB (nI 40) dX6_init_88 rfl ?_
  refine g_newa hB 18 9 40 rfl (by decide) dX6_init_90 ⟨Nat.le_of_ble_eq_true rfl, Nat.le_of_ble_eq_true rfl⟩ (fun q9 => ?_)
  refine g_putF hB hnm (ci := 6) (T := TX6) (N := 26) in_X6 rfl tyX6 tyX6_ok nmX6 17 0 16 (fs := [.int 0, .int 0, .ref q0, .ref q1, .int (nI 1), .ref q2, .int 0, .int (nI 12), .ref q3, .ref q4, .ref q5, .int 0, .int 0, .ref q6, .ref q7, .ref q8, .null, .null, .null, .null, .null, .null, .null, .null, .null, .null]) (v := .ref q9) (by decide) (by decide) (((uE_n (fun z => absurd z.1 (by decide))).trans (uE_s))) tw_fl_X6_44 rfl rfl rfl rfl (Nat.le_of_ble_eq_true rfl) dX6_init_92 ?_
  refine g_aload_n hB 0 dX6_init_95 rfl rfl ?_
  refine g_bipush hB (nI 40) dX6_init_96 rfl ?_
  refine g_newa hB 18 10 40 rfl (by decide) dX6_init_98 ⟨Nat.le_of_ble_eq_true rfl, Nat.le_of_ble_eq_true rfl⟩ (fun q10 => ?_)
  refine g_putF hB hnm (ci := 6) (T := TX6) (N := 26) in_X6 rfl tyX6 tyX6_ok nmX6 17 0 17 (fs := [.int 0, .int 0, .ref q0, .ref q1, .int (nI 1), .ref q2, .int 0, .int (nI 12), .ref q3, .ref q4, .ref q5, .int 0, .int 0, .ref q6, .ref q7, .ref q8, .ref q9, .null, .null, .null, .null, .null, .null, .null, .null, .null]) (v := .ref q10) (by decide) (by decide) (((uE_n (fun z => absurd z.1 (by decide))).trans (uE_s))) tw_fl_X6_47 rfl rfl rfl rfl (Nat.le_of_ble_eq_true rfl) dX6_init_100 ?_
  refine g_aload_n hB 0 dX6_init_103 rfl rfl ?_
  refine g_bipush hB (nI 40) dX6_init_104 rfl ?_
  refine g_newa hB 18 11 40 rfl (by decide) dX6_init_106 ⟨Nat.le_of_ble_eq_true rfl, Nat.le_of_ble_eq_true rfl⟩ (fun q11 => ?_)
  refine g_putF hB hnm (ci := 6) (T := TX6) (N := 26) in_X6 rfl tyX6 tyX6_ok nmX6 17 0 18 (fs := [.int 0, .int 0, .ref q0, .ref q1, .int (nI 1), .ref q2, .int 0, .int (nI 12), .ref q3, .ref q4, .ref q5, .int 0, .int 0, .ref q6, .ref q7, .ref q8, .ref q9, .ref q10, .null, .null, .null, .null, .null, .null, .null, .null]) (v := .ref q11) (by decide) (by decide) (((uE_n (fun z => absurd z.1 (by decide))).trans (uE_s))) tw_fl_X6_50 rfl rfl rfl rfl (Nat.le_of_ble_eq_true rfl) dX6_init_108 ?_
  refine g_aload_n hB 0 dX6_init_111 rfl rfl ?_
  refine g_bipush hB (nI 40) dX6_init_112 rfl ?_
  refine g_newa hB 18 12 40 rfl (by decide) dX6_init_114 ⟨Nat.le_of_ble_eq_true rfl, Nat.le_of_ble_eq_true rfl⟩ (fun q12 => ?_)
  refine g_putF hB hnm (ci := 6) (T := TX6) (N := 26) in_X6 rfl tyX6 tyX6_ok nmX6 17 0 19 (fs := [.int 0, .int 0, .ref q0, .ref q1, .int (nI 1), .ref q2, .int 0, .int (nI 12), .ref q3, .ref q4, .ref q5, .int 0, .int 0, .ref q6, .ref q7, .ref q8, .ref q9, .ref q10, .ref q11, .null, .null, .null, .null, .null, .null, .null]) (v := .ref q12) (by decide) (by decide) (((uE_n (fun z => absurd z.1 (by decide))).trans (uE_s))) tw_fl_X6_53 rfl rfl rfl rfl (Nat.le_of_ble_eq_true rfl) dX6_init_116 ?_
  refine g_aload_n hB 0 dX6_init_119 rfl rfl ?_
  refine g_sipush hB (nI 320) dX6_init_120 rfl ?_
  refine g_newa hB 18 13 320 rfl (by decide) dX6_init_123 ⟨Nat.le_of_ble_eq_true rfl, Nat.le_of_ble_eq_true rfl⟩ (fun q13 => ?_)
  refine g_putF hB hnm (ci := 6) (T := TX6) (N := 26) in_X6 rfl tyX6 tyX6_ok nmX6 17 0 20 (fs := [.int 0, .int 0, .ref q0, .ref q1, .int (nI 1), .ref q2, .int 0, .int (nI 12), .ref q3, .ref q4, .ref q5, .int 0, .int 0, .ref q6, .ref q7, .ref q8, .ref q9, .ref q10, .ref q11, .ref q12, .null, .null, .null, .null, .null, .null]) (v := .ref q13) (by decide) (by decide) (((uE_n (fun z => absurd z.1 (by decide))).trans (uE_s))) tw_fl_X6_56 rfl rfl rfl rfl (Nat.le_of_ble_eq_true rfl) dX6_init_125 ?_
  refine g_aload_n hB 0 dX6_init_128 rfl rfl ?_
  refine g_sipush hB (nI 320) dX6_init_129 rfl ?_
  refine g_newa hB 18 14 320 rfl (by decide) dX6_init_132 ⟨Nat.le_of_ble_eq_true rfl, Nat.le_of_ble_eq_true rfl⟩ (fun q14 => ?_)
  refine g_putF hB hnm (ci := 6) (T := TX6) (N := 26) in_X6 rfl tyX6 tyX6_ok nmX6 17 0 21 (fs := [.int 0, .int 0, .ref q0, .ref q1, .int (nI 1), .ref q2, .int 0, .int (nI 12), .ref q3, .ref q4, .ref q5, .int 0, .int 0, .ref q6, .ref q7, .ref q8, .ref q9, .ref q10, .ref q11, .ref q12, .ref q13, .null, .null, .null, .null, .null]) (v := .ref q14) (by decide) (by decide) (((uE_n (fun z => absurd z.1 (by decide))).trans (uE_s))) tw_fl_X6_59 rfl rfl rfl rfl (Nat.le_of_ble_eq_true rfl) dX6_init_134 ?_
  refine g_aload_n hB 0 dX6_init_137 rfl rfl ?_
  refine g_bipush hB (nI 6) dX6_init_138 rfl ?_
  refine g_newa hB 18 15 6 rfl (by decide) dX6_init_140 ⟨Nat.le_of_ble_eq_true rfl, Nat.le_of_ble_eq_true rfl⟩ (fun q15 => ?_)
  refine g_putF hB hnm (ci := 6) (T := TX6) (N := 26) in_X6 rfl tyX6 tyX6_ok nmX6 17 0 22 (fs := [.int 0, .int 0, .ref q0, .ref q1, .int (nI 1), .ref q2, .int 0, .int (nI 12), .ref q3, .ref q4, .ref q5, .int 0, .int 0, .ref q6, .ref q7, .ref q8, .ref q9, .ref q10, .ref q11, .ref q12, .ref q13, .ref q14, .null, .null, .null, .null]) (v := .ref q15) (by decide) (by decide) (((uE_n (fun z => absurd z.1 (by decide))).trans (uE_s))) tw_fl_X6_62 rfl rfl rfl rfl (Nat.le_of_ble_eq_true rfl) dX6_init_142 ?_
  refine g_aload_n hB 0 dX6_init_145 rfl rfl ?_
  refine g_bipush hB (nI 6) dX6_init_146 rfl ?_
  refine g_newa hB 18 16 6 rfl (by decide) dX6_init_148 ⟨Nat.le_of_ble_eq_true rfl, Nat.le_of_ble_eq_true rfl⟩ (fun q16 => ?_)
  refine g_putF hB hnm (ci := 6) (T := TX6) (N := 26) in_X6 rfl tyX6 tyX6_ok nmX6 17 0 23 (fs := [.int 0, .int 0, .ref q0, .ref q1, .int (nI 1), .ref q2, .int 0, .int (nI 12), .ref q3, .ref q4, .ref q5, .int 0, .int 0, .ref q6, .ref q7, .ref q8, .ref q9, .ref q10, .ref q11, .ref q12, .ref q13, .ref q14, .ref q15, .null, .null, .null]) (v := .ref q16) (by decide) (by decide) (((uE_n (fun z => absurd z.1 (by decide))).trans (uE_s))) tw_fl_X6_65 rfl rfl rfl rfl (Nat.le_of_ble_eq_true rfl) dX6_init_150 ?_
  refine g_aload_n hB 0 dX6_init_153 rfl rfl ?_
  refine g_bipush hB (nI 6) dX6_init_154 rfl ?_
  refine g_newa hB 18 17 6 rfl (by decide) dX6_init_156 ⟨Nat.le_of_ble_eq_true rfl, Nat.le_of_ble_eq_true rfl⟩ (fun q17 => ?_)
  refine g_putF hB hnm (ci := 6) (T := TX6) (N := 26) in_X6 rfl tyX6 tyX6_ok nmX6 17 0 24 (fs := [.int 0, .int 0, .ref q0, .ref q1, .int (nI 1), .ref q2, .int 0, .int (nI 12), .ref q3, .ref q4, .ref q5, .int 0, .int 0, .ref q6, .ref q7, .ref q8, .ref q9, .ref q10, .ref q11, .ref q12, .ref q13, .ref q14, .ref q15, .ref q16, .null, .null]) (v := .ref q17) (by decide) (by decide) (((uE_n (fun z => absurd z.1 (by decide))).trans (uE_s))) tw_fl_X6_68 rfl rfl rfl rfl (Nat.le_of_ble_eq_true rfl) dX6_init_158 ?_
  refine g_aload_n hB 0 dX6_init_161 rfl rfl ?_
  refine g_bipush hB (nI 6) dX6_init_162 rfl ?_
  refine g_newa hB 18 18 6 rfl (by decide) dX6_init_164 ⟨Nat.le_of_ble_eq_true rfl, Nat.le_of_ble_eq_true rfl⟩ (fun q18 => ?_)
  refine g_putF hB hnm (ci := 6) (T := TX6) (N := 26) in_X6 rfl tyX6 tyX6_ok nmX6 17 0 25 (fs := [.int 0, .int 0, .ref q0, .ref q1, .int (nI 1), .ref q2, .int 0, .int (nI 12), .ref q3, .ref q4, .ref q5, .int 0, .int 0, .ref q6, .ref q7, .ref q8, .ref q9, .ref q10, .ref q11, .ref q12, .ref q13, .ref q14, .ref q15, .ref q16, .ref q17, .null]) (v := .ref q18) (by decide) (by decide) (((uE_n (fun z => absurd z.1 (by decide))).trans (uE_s))) tw_fl_X6_71 rfl rfl rfl rfl (Nat.le_of_ble_eq_true rfl) dX6_init_166 ?_
  refine g_cn (cn2 := cnM 19) (fun k => ?_) (g_widen (k := 19) (n := 1782) (Nat.le_of_ble_eq_true rfl) (Nat.le_of_ble_eq_true rfl) (g_sub [(0, .ref (ad 17 0))] rfl (ph2 _ _ (fun k i hk => ?_) (fun k i h17 h18 => ?_) rfl (fun i hi => ?_))))
  · by_cases h18 : k = 18
    · subst h18; rfl
    · by_cases h17 : k = 17
      · subst h17; rfl
      · simp [cnU, cnM, h18, h17]
  · simp [adU, hk]
  · simp [uE, h18, h17]
  · match i, hi with
    | 0, _ => rfl
    | 1, _ => rfl
    | 2, _ => rfl
    | 3, _ => rfl
    | 4, _ => rfl
    | 5, _ => rfl
    | 6, _ => rfl
    | 7, _ => rfl
    | 8, _ => rfl
    | 9, _ => rfl
    | 10, _ => rfl
    | 11, _ => rfl
    | 12, _ => rfl
    | 13, _ => rfl
    | 14, _ => rfl
    | 15, _ => rfl
    | 16, _ => rfl
    | 17, _ => rfl
    | 18, _ => rfl
    | (n + 19), hi => exact absurd hi (by omega)
end X12
