/-! the law: persons -/
section L13
variable {l : Launch} {D : va_G} {ad : Nat → Nat → Nat} {ca : Nat → ClassId}

theorem c_L_persons_0 (hl : l.stackTraces = false) (S : Mem) (ng nm nc t pa rk mo kk : Nat) (h : INV S ng nm nc t pa rk mo) (hL : LR S ng nm nc t pa rk) (hH : LH S nm t) (ht : t ≤ 60 * kk) (hmo : mo ≤ kk) (hkk : kk < 90) (v : Int32) : CI l yL_persons cL_persons 12 (some .boolean) { frames := 9, cells := 32, slots := 192, locals := 160 } D ad CNT ca SR (SH ad ca S) [.ref (ad 0 0), .int (nI 0), .int (v), .ref (ad 22 0), .ref (ad 22 1), .ref (ad 22 2), .ref (ad 22 3), .ref (ad 22 4), .ref (ad 22 5)] (TPP ad ca kk) := by
  have hR := h.2.1
  have hL0 := hL
  obtain ⟨⟨⟨q0, q1, q2, q3, q4, q5⟩, hng1, hng4, hnm3, hnc12, ht20, hrk20, hpa12⟩, hD, hG, hN, hT, hZ, hC, hCz, hA, hGa, hE⟩ := hL
  have hbd := qv_bd h
  have hTI : TI S kk := ⟨ng, nm, nc, t, pa, rk, mo, h, hL0, hH, ht, hmo⟩
  refine CI.of _ RL (by decide +kernel) rfl (Nat.le_of_ble_eq_true rfl) ?_
  intro p9 e9 s9 m9 a9 b9 me9 c9 A9 hB hr hnm9
  have mid : ∀ (a : Nat) (b : Bool), a < 5 → G p9 l e9 { frames := 9, cells := 32, slots := 192, locals := 160 } s9 m9 a9 b9 me9 c9 D ad A9 12 (MQ b9 (va_Qi (TPP ad ca kk) (fun E' t => WW D ad CNT A9 E' t.heap) A9) a9 s9 32 192 A9) 0 0 CNT (SH ad ca (S)) 20 [(0, .ref (ad 0 0)), (1, .int (nI 0)), (2, .int (v)), (3, .ref (ad 22 0)), (4, .ref (ad 22 1)), (5, .ref (ad 22 2)), (6, .ref (ad 22 3)), (7, .ref (ad 22 4)), (8, .ref (ad 22 5)), (9, .int (nI a)), (10, .int (bI (b)))] [] := by
    intro a b ha
    by_cases hs : S 18 1 a = 0
    · have hc : leC S (nI a) = 0 := by
        rcases per_5 h (show a < 8 by omega) with ⟨z1, z2, z3⟩ | ⟨z1, z2, z3⟩ | ⟨z1, z2, z3⟩
        · exact z2
        · rw [hs] at z1; exact absurd z1 (by decide)
        · rw [hs] at z1; exact absurd z1 (by decide)
      have k18 : leM S a nc nm b 18 = S 18 := leM_k (by decide) (by decide) (by decide) (by decide) (by decide)
      have k17 : leM S a nc nm b 17 = S 17 := leM_k (by decide) (by decide) (by decide) (by decide) (by decide)
      have k22 : leM S a nc nm b 22 = S 22 := leM_k (by decide) (by decide) (by decide) (by decide) (by decide)
      have hLB : LR (GB (leM S a nc nm b) (leV S a nc b)) ng nm nc t pa rk := LR_fr hL0 (GB_18 k18) (GB_22 k22)
      have hRB : RI (GB (leM S a nc nm b) (leV S a nc b)) ng nm nc t pa := GB_RI k17 k18 hR
      have hHB : LH (GB (leM S a nc nm b) (leV S a nc b)) nm t := fun m hm hh => by rw [GB_18 k18]; exact hH m hm (by rw [← halt_18 (GB_18 k18)]; exact hh)
      have hsB : GB (leM S a nc nm b) (leV S a nc b) 18 1 a = 0 := by rw [GB_18 k18]; exact hs
      have fin : ∀ A1 : Mem, (∀ k, k ≠ 22 → A1 k = (bif b then rVoidM (uM (GB (leM S a nc nm b) (leV S a nc b)) 18 1 a (nI 2)) a nc nm else uM (GB (leM S a nc nm b) (leV S a nc b)) 18 1 a (nI 1)) k) → LR A1 ng nm nc t pa rk → leV S a nc b = (bif b then nI (vCnt (uM (GB (leM S a nc nm b) (leV S a nc b)) 18 1 a (nI 2)) a nc) else nI 0) ∧ TI A1 (kk + 1) := fun A1 z1 z2 => TI_le h hH ht hmo hkk (by omega) hs z1 z2
      generalize hV : leV S a nc b = V at hLB hRB hHB hsB fin

      cases b with
      | true =>
        refine g_aload_n hB 0 dL_persons_20 rfl rfl ?_
        refine g_iconst hB (nI 2) dL_persons_21 rfl ?_
        refine g_iload hB 9 dL_persons_22 rfl ?_
        refine g_iload hB 10 dL_persons_24 rfl ?_
        refine g_iconst hB (nI 0) dL_persons_26 rfl ?_
        refine g_iconst hB (nI 0) dL_persons_27 rfl ?_
        refine g_callHSI hB (c_L_calls_leave hl _ ng nm nc t pa h.1 _ true (by rw [hc]; decide)) k_L_139 yk_L_calls ⟨Nat.le_of_ble_eq_true rfl, Nat.le_of_ble_eq_true rfl⟩ rfl (Nat.le_of_ble_eq_true rfl) ⟨Nat.le_of_ble_eq_true rfl, Nat.le_of_ble_eq_true rfl⟩ dL_persons_28 ?_
        rintro _ _ ⟨rfl, rfl⟩
        refine g_top ((V)) (by rw [hc, ix_nI (by omega)]; exact hV) ?_
        refine s_eq (leM S a nc nm true) (by rw [hc, ix_nI (by omega)]; rfl) ?_
        refine g_gh (GB (leM S a nc nm true) V) GB_gh ?_
        refine g_iload hB 9 dL_persons_31 rfl ?_
        refine g_iload hB 10 dL_persons_33 rfl ?_
        refine g_iconst hB (nI 1) dL_persons_35 rfl ?_
        refine g_icmp_ne hB 43 dL_persons_36 (by decide) (fun c_36 => ?_) (fun c_36 => ?_)
        · exact absurd rfl c_36
        · refine g_iconst hB (nI 1) dL_persons_39 rfl ?_
          refine g_goto hB 44 dL_persons_40 (by decide) ?_
          refine g_aload_n hB 3 dL_persons_44 rfl rfl ?_
          refine g_aload hB 4 dL_persons_45 rfl ?_
          refine g_aload hB 5 dL_persons_47 rfl ?_
          refine g_aload hB 6 dL_persons_49 rfl ?_
          refine g_aload hB 7 dL_persons_51 rfl ?_
          refine g_aload hB 8 dL_persons_53 rfl ?_
          refine g_callSI hB (c_L_leaves _ ng nm nc t pa rk hLB hRB a ha true (fun _ => hHB)) k_L_157 yk_L_leaves ⟨Nat.le_of_ble_eq_true rfl, Nat.le_of_ble_eq_true rfl⟩ rfl (Nat.le_of_ble_eq_true rfl) ⟨Nat.le_of_ble_eq_true rfl, Nat.le_of_ble_eq_true rfl⟩ dL_persons_55 ?_
          rintro _ _ (⟨z1, -, -⟩ | ⟨-, A1, rfl, rfl, hA1, hLA1⟩)
          · exact absurd hsB z1
          refine g_top ((V)) ((fin A1 hA1 hLA1).1.symm) ?_
          refine g_icmp_ne hB 65 dL_persons_58 (by decide) (fun c_58 => ?_) (fun c_58 => ?_)
          · exact absurd rfl c_58
          · refine g_iconst hB (nI 1) dL_persons_61 rfl ?_
            refine g_goto hB 66 dL_persons_62 (by decide) ?_
            exact g_iret hB hr rfl (Nat.le_of_ble_eq_true rfl) (Nat.le_of_ble_eq_true rfl) (⟨A1, rfl, rfl, (fin A1 hA1 hLA1).2⟩) dL_persons_66
      | false =>
        refine g_aload_n hB 0 dL_persons_20 rfl rfl ?_
        refine g_iconst hB (nI 2) dL_persons_21 rfl ?_
        refine g_iload hB 9 dL_persons_22 rfl ?_
        refine g_iload hB 10 dL_persons_24 rfl ?_
        refine g_iconst hB (nI 0) dL_persons_26 rfl ?_
        refine g_iconst hB (nI 0) dL_persons_27 rfl ?_
        refine g_callHSI hB (c_L_calls_leave hl _ ng nm nc t pa h.1 _ false (by rw [hc]; decide)) k_L_139 yk_L_calls ⟨Nat.le_of_ble_eq_true rfl, Nat.le_of_ble_eq_true rfl⟩ rfl (Nat.le_of_ble_eq_true rfl) ⟨Nat.le_of_ble_eq_true rfl, Nat.le_of_ble_eq_true rfl⟩ dL_persons_28 ?_
        rintro _ _ ⟨rfl, rfl⟩
        refine g_top ((V)) (by rw [hc, ix_nI (by omega)]; exact hV) ?_
        refine s_eq (leM S a nc nm false) (by rw [hc, ix_nI (by omega)]; rfl) ?_
        refine g_gh (GB (leM S a nc nm false) V) GB_gh ?_
        refine g_iload hB 9 dL_persons_31 rfl ?_
        refine g_iload hB 10 dL_persons_33 rfl ?_
        refine g_iconst hB (nI 1) dL_persons_35 rfl ?_
        refine g_icmp_ne hB 43 dL_persons_36 (by decide) (fun c_36 => ?_) (fun c_36 => ?_)
        · refine g_iconst hB (nI 0) dL_persons_43 rfl ?_
          refine g_aload_n hB 3 dL_persons_44 rfl rfl ?_
          refine g_aload hB 4 dL_persons_45 rfl ?_
          refine g_aload hB 5 dL_persons_47 rfl ?_
          refine g_aload hB 6 dL_persons_49 rfl ?_
          refine g_aload hB 7 dL_persons_51 rfl ?_
          refine g_aload hB 8 dL_persons_53 rfl ?_
          refine g_callSI hB (c_L_leaves _ ng nm nc t pa rk hLB hRB a ha false (fun _ => hHB)) k_L_157 yk_L_leaves ⟨Nat.le_of_ble_eq_true rfl, Nat.le_of_ble_eq_true rfl⟩ rfl (Nat.le_of_ble_eq_true rfl) ⟨Nat.le_of_ble_eq_true rfl, Nat.le_of_ble_eq_true rfl⟩ dL_persons_55 ?_
          rintro _ _ (⟨z1, -, -⟩ | ⟨-, A1, rfl, rfl, hA1, hLA1⟩)
          · exact absurd hsB z1
          refine g_top ((V)) ((fin A1 hA1 hLA1).1.symm) ?_
          refine g_icmp_ne hB 65 dL_persons_58 (by decide) (fun c_58 => ?_) (fun c_58 => ?_)
          · exact absurd rfl c_58
          · refine g_iconst hB (nI 1) dL_persons_61 rfl ?_
            refine g_goto hB 66 dL_persons_62 (by decide) ?_
            exact g_iret hB hr rfl (Nat.le_of_ble_eq_true rfl) (Nat.le_of_ble_eq_true rfl) (⟨A1, rfl, rfl, (fin A1 hA1 hLA1).2⟩) dL_persons_66
        · exact absurd c_36 (by decide)
    · have hc : leC S (nI a) = 2 := by
        rcases per_5 h (show a < 8 by omega) with ⟨z1, z2, z3⟩ | ⟨z1, z2, z3⟩ | ⟨z1, z2, z3⟩
        · exact absurd z1 hs
        · exact z2
        · exact z2
      cases b with
      | true =>
        refine g_aload_n hB 0 dL_persons_20 rfl rfl ?_
        refine g_iconst hB (nI 2) dL_persons_21 rfl ?_
        refine g_iload hB 9 dL_persons_22 rfl ?_
        refine g_iload hB 10 dL_persons_24 rfl ?_
        refine g_iconst hB (nI 0) dL_persons_26 rfl ?_
        refine g_iconst hB (nI 0) dL_persons_27 rfl ?_
        refine g_callHSI hB (c_L_calls_leave hl _ ng nm nc t pa h.1 _ true (by rw [hc]; decide)) k_L_139 yk_L_calls ⟨Nat.le_of_ble_eq_true rfl, Nat.le_of_ble_eq_true rfl⟩ rfl (Nat.le_of_ble_eq_true rfl) ⟨Nat.le_of_ble_eq_true rfl, Nat.le_of_ble_eq_true rfl⟩ dL_persons_28 ?_
        rintro _ _ ⟨rfl, rfl⟩
        refine g_top ((-3)) (by rw [hc]; rfl) ?_
        refine s_eq S (by rw [hc]; rfl) ?_
        refine g_iload hB 9 dL_persons_31 rfl ?_
        refine g_iload hB 10 dL_persons_33 rfl ?_
        refine g_iconst hB (nI 1) dL_persons_35 rfl ?_
        refine g_icmp_ne hB 43 dL_persons_36 (by decide) (fun c_36 => ?_) (fun c_36 => ?_)
        · exact absurd rfl c_36
        · refine g_iconst hB (nI 1) dL_persons_39 rfl ?_
          refine g_goto hB 44 dL_persons_40 (by decide) ?_
          refine g_aload_n hB 3 dL_persons_44 rfl rfl ?_
          refine g_aload hB 4 dL_persons_45 rfl ?_
          refine g_aload hB 5 dL_persons_47 rfl ?_
          refine g_aload hB 6 dL_persons_49 rfl ?_
          refine g_aload hB 7 dL_persons_51 rfl ?_
          refine g_aload hB 8 dL_persons_53 rfl ?_
          refine g_callSI hB (c_L_leaves _ ng nm nc t pa rk hL0 hR a ha true (fun _ => hH)) k_L_157 yk_L_leaves ⟨Nat.le_of_ble_eq_true rfl, Nat.le_of_ble_eq_true rfl⟩ rfl (Nat.le_of_ble_eq_true rfl) ⟨Nat.le_of_ble_eq_true rfl, Nat.le_of_ble_eq_true rfl⟩ dL_persons_55 ?_
          rintro _ _ (⟨-, rfl, rfl⟩ | ⟨z1, -⟩)
          rotate_left
          · exact absurd z1 hs
          refine g_top ((-3)) (rfl) ?_
          refine g_icmp_ne hB 65 dL_persons_58 (by decide) (fun c_58 => ?_) (fun c_58 => ?_)
          · exact absurd rfl c_58
          · refine g_iconst hB (nI 1) dL_persons_61 rfl ?_
            refine g_goto hB 66 dL_persons_62 (by decide) ?_
            exact g_iret hB hr rfl (Nat.le_of_ble_eq_true rfl) (Nat.le_of_ble_eq_true rfl) (⟨S, rfl, rfl, TI_s hTI⟩) dL_persons_66
      | false =>
        refine g_aload_n hB 0 dL_persons_20 rfl rfl ?_
        refine g_iconst hB (nI 2) dL_persons_21 rfl ?_
        refine g_iload hB 9 dL_persons_22 rfl ?_
        refine g_iload hB 10 dL_persons_24 rfl ?_
        refine g_iconst hB (nI 0) dL_persons_26 rfl ?_
        refine g_iconst hB (nI 0) dL_persons_27 rfl ?_
        refine g_callHSI hB (c_L_calls_leave hl _ ng nm nc t pa h.1 _ false (by rw [hc]; decide)) k_L_139 yk_L_calls ⟨Nat.le_of_ble_eq_true rfl, Nat.le_of_ble_eq_true rfl⟩ rfl (Nat.le_of_ble_eq_true rfl) ⟨Nat.le_of_ble_eq_true rfl, Nat.le_of_ble_eq_true rfl⟩ dL_persons_28 ?_
        rintro _ _ ⟨rfl, rfl⟩
        refine g_top ((-3)) (by rw [hc]; rfl) ?_
        refine s_eq S (by rw [hc]; rfl) ?_
        refine g_iload hB 9 dL_persons_31 rfl ?_
        refine g_iload hB 10 dL_persons_33 rfl ?_
        refine g_iconst hB (nI 1) dL_persons_35 rfl ?_
        refine g_icmp_ne hB 43 dL_persons_36 (by decide) (fun c_36 => ?_) (fun c_36 => ?_)
        · refine g_iconst hB (nI 0) dL_persons_43 rfl ?_
          refine g_aload_n hB 3 dL_persons_44 rfl rfl ?_
          refine g_aload hB 4 dL_persons_45 rfl ?_
          refine g_aload hB 5 dL_persons_47 rfl ?_
          refine g_aload hB 6 dL_persons_49 rfl ?_
          refine g_aload hB 7 dL_persons_51 rfl ?_
          refine g_aload hB 8 dL_persons_53 rfl ?_
          refine g_callSI hB (c_L_leaves _ ng nm nc t pa rk hL0 hR a ha false (fun _ => hH)) k_L_157 yk_L_leaves ⟨Nat.le_of_ble_eq_true rfl, Nat.le_of_ble_eq_true rfl⟩ rfl (Nat.le_of_ble_eq_true rfl) ⟨Nat.le_of_ble_eq_true rfl, Nat.le_of_ble_eq_true rfl⟩ dL_persons_55 ?_
          rintro _ _ (⟨-, rfl, rfl⟩ | ⟨z1, -⟩)
          rotate_left
          · exact absurd z1 hs
          refine g_top ((-3)) (rfl) ?_
          refine g_icmp_ne hB 65 dL_persons_58 (by decide) (fun c_58 => ?_) (fun c_58 => ?_)
          · exact absurd rfl c_58
          · refine g_iconst hB (nI 1) dL_persons_61 rfl ?_
            refine g_goto hB 66 dL_persons_62 (by decide) ?_
            exact g_iret hB hr rfl (Nat.le_of_ble_eq_true rfl) (Nat.le_of_ble_eq_true rfl) (⟨S, rfl, rfl, TI_s hTI⟩) dL_persons_66
        · exact absurd c_36 (by decide)
  refine g_iload_n hB 2 dL_persons_0 rfl rfl ?_
  refine g_iconst hB (nI 5) dL_persons_1 rfl ?_
  refine g_callSI hB (c_L_low _ _ _ (by omega) (by omega)) k_L_125 yk_L_low ⟨Nat.le_of_ble_eq_true rfl, Nat.le_of_ble_eq_true rfl⟩ rfl (Nat.le_of_ble_eq_true rfl) ⟨Nat.le_of_ble_eq_true rfl, Nat.le_of_ble_eq_true rfl⟩ dL_persons_2 ?_
  rintro _ _ ⟨a, ha, rfl, rfl⟩
  refine g_istore hB 9 dL_persons_5 (by decide) ?_
  refine g_iload_n hB 1 dL_persons_7 rfl rfl ?_
  refine g_if_ne hB 67 dL_persons_8 (by decide) (fun z => absurd rfl z) (fun _ => ?_)
  refine g_iload_n hB 2 dL_persons_11 rfl rfl ?_
  refine g_iconst hB (nI 3) dL_persons_12 rfl ?_
  refine g_ishr hB dL_persons_13 ?_
  refine g_iconst hB (nI 2) dL_persons_14 rfl ?_
  refine g_callSI hB (c_L_low _ _ _ (by omega) (by omega)) k_L_125 yk_L_low ⟨Nat.le_of_ble_eq_true rfl, Nat.le_of_ble_eq_true rfl⟩ rfl (Nat.le_of_ble_eq_true rfl) ⟨Nat.le_of_ble_eq_true rfl, Nat.le_of_ble_eq_true rfl⟩ dL_persons_15 ?_
  rintro _ _ ⟨k, hk, rfl, rfl⟩
  refine g_istore hB 10 dL_persons_18 (by decide) ?_
  rcases (show k = 0 ∨ k = 1 by omega) with rfl | rfl
  · exact g_sub [(0, .ref (ad 0 0)), (1, .int (nI 0)), (2, .int (v)), (3, .ref (ad 22 0)), (4, .ref (ad 22 1)), (5, .ref (ad 22 2)), (6, .ref (ad 22 3)), (7, .ref (ad 22 4)), (8, .ref (ad 22 5)), (9, .int (nI a)), (10, .int (bI (false)))] rfl (mid a false ha)
  · exact g_sub [(0, .ref (ad 0 0)), (1, .int (nI 0)), (2, .int (v)), (3, .ref (ad 22 0)), (4, .ref (ad 22 1)), (5, .ref (ad 22 2)), (6, .ref (ad 22 3)), (7, .ref (ad 22 4)), (8, .ref (ad 22 5)), (9, .int (nI a)), (10, .int (bI (true)))] rfl (mid a true ha)
theorem c_L_persons_1 (hl : l.stackTraces = false) (S : Mem) (ng nm nc t pa rk mo kk : Nat) (h : INV S ng nm nc t pa rk mo) (hL : LR S ng nm nc t pa rk) (hH : LH S nm t) (ht : t ≤ 60 * kk) (hmo : mo ≤ kk) (v : Int32) : CI l yL_persons cL_persons 12 (some .boolean) { frames := 9, cells := 32, slots := 192, locals := 160 } D ad CNT ca SR (SH ad ca S) [.ref (ad 0 0), .int (nI 1), .int (v), .ref (ad 22 0), .ref (ad 22 1), .ref (ad 22 2), .ref (ad 22 3), .ref (ad 22 4), .ref (ad 22 5)] (TPP ad ca kk) := by
  have hR := h.2.1
  have hL0 := hL
  obtain ⟨⟨⟨q0, q1, q2, q3, q4, q5⟩, hng1, hng4, hnm3, hnc12, ht20, hrk20, hpa12⟩, hD, hG, hN, hT, hZ, hC, hCz, hA, hGa, hE⟩ := hL
  have hbd := qv_bd h
  have hTI : TI S kk := ⟨ng, nm, nc, t, pa, rk, mo, h, hL0, hH, ht, hmo⟩
  refine CI.of _ RL (by decide +kernel) rfl (Nat.le_of_ble_eq_true rfl) ?_
  intro p9 e9 s9 m9 a9 b9 me9 c9 A9 hB hr hnm9
  have no : ∀ a, a < 5 → S 18 1 a ≠ nI 1 → G p9 l e9 { frames := 9, cells := 32, slots := 192, locals := 160 } s9 m9 a9 b9 me9 c9 D ad A9 12 (MQ b9 (va_Qi (TPP ad ca kk) (fun E' t => WW D ad CNT A9 E' t.heap) A9) a9 s9 32 192 A9) 0 0 CNT (SH ad ca (S)) 104 [(0, .ref (ad 0 0)), (1, .int (nI 1)), (2, .int (v)), (3, .ref (ad 22 0)), (4, .ref (ad 22 1)), (5, .ref (ad 22 2)), (6, .ref (ad 22 3)), (7, .ref (ad 22 4)), (8, .ref (ad 22 5)), (9, .int (nI a)), (10, .int (nI 0))] [] := by
    intro a ha hs
    have hc : cbC S (nI a) = 2 := by
      rcases per_5 h (show a < 8 by omega) with ⟨z1, z2, z3⟩ | ⟨z1, z2, z3⟩ | ⟨z1, z2, z3⟩
      · exact z3
      · exact absurd z1 hs
      · exact z3
    refine g_aload_n hB 3 dL_persons_104 rfl rfl ?_
    refine g_bipush hB (nI 10) dL_persons_105 rfl ?_
    refine g_dup2 hB rfl rfl dL_persons_107 ?_
    refine g_iald hB 22 0 10 (n := 12) (by decide) rfl (by first | assumption | omega) (Nat.le_of_ble_eq_true rfl) dL_persons_108 ?_
    refine g_iload hB 10 dL_persons_109 rfl ?_
    refine g_if_eq hB 121 dL_persons_111 (by decide) (fun _ => ?_) (fun z => absurd rfl z)
    refine g_iconst hB (nI 0) dL_persons_121 rfl ?_
    refine g_ixor hB dL_persons_122 ?_
    refine g_top ((S 22 0 10)) (xor_z _) ?_
    refine s_iast hB 22 0 10 (n := 12) (by decide) (fun _ => rfl) (by first | assumption | omega) (Nat.le_of_ble_eq_true rfl) dL_persons_123 ?_
    refine s_eq S uM_self ?_
    refine g_aload_n hB 0 dL_persons_124 rfl rfl ?_
    refine g_iload hB 9 dL_persons_125 rfl ?_
    refine g_callHSI hB (c_L_comes hl _ _ (by rw [hc]; decide)) k_L_161 yk_L_comes ⟨Nat.le_of_ble_eq_true rfl, Nat.le_of_ble_eq_true rfl⟩ rfl (Nat.le_of_ble_eq_true rfl) ⟨Nat.le_of_ble_eq_true rfl, Nat.le_of_ble_eq_true rfl⟩ dL_persons_127 ?_
    rintro _ _ ⟨rfl, rfl⟩
    refine g_top ((-3)) (by rw [hc]; rfl) ?_
    refine g_iload hB 10 dL_persons_130 rfl ?_
    refine g_if_eq hB 139 dL_persons_132 (by decide) (fun _ => ?_) (fun z => absurd rfl z)
    refine g_bipush hB (-3) dL_persons_139 rfl ?_
    refine g_icmp_ne hB 148 dL_persons_141 (by decide) (fun c_141 => ?_) (fun c_141 => ?_)
    · exact absurd rfl c_141
    · refine g_iconst hB (nI 1) dL_persons_144 rfl ?_
      refine g_goto hB 149 dL_persons_145 (by decide) ?_
      exact g_iret hB hr rfl (Nat.le_of_ble_eq_true rfl) (Nat.le_of_ble_eq_true rfl) (⟨_, rfl, rfl, by rw [hc]; exact TI_s hTI⟩) dL_persons_149
  have yes : ∀ a, a < 5 → S 18 1 a = nI 1 → G p9 l e9 { frames := 9, cells := 32, slots := 192, locals := 160 } s9 m9 a9 b9 me9 c9 D ad A9 12 (MQ b9 (va_Qi (TPP ad ca kk) (fun E' t => WW D ad CNT A9 E' t.heap) A9) a9 s9 32 192 A9) 0 0 CNT (SH ad ca (S)) 104 [(0, .ref (ad 0 0)), (1, .int (nI 1)), (2, .int (v)), (3, .ref (ad 22 0)), (4, .ref (ad 22 1)), (5, .ref (ad 22 2)), (6, .ref (ad 22 3)), (7, .ref (ad 22 4)), (8, .ref (ad 22 5)), (9, .int (nI a)), (10, .int (nI 1))] [] := by
    intro a ha hs
    have hc : cbC (coA S a) (nI a) = 0 := by
      rcases per_5 h (show a < 8 by omega) with ⟨z1, z2, z3⟩ | ⟨z1, z2, z3⟩ | ⟨z1, z2, z3⟩
      · rw [hs] at z1; exact absurd z1 (by decide)
      · exact z3
      · rw [hs] at z1; exact absurd z1 (by decide)
    refine g_aload_n hB 3 dL_persons_104 rfl rfl ?_
    refine g_bipush hB (nI 10) dL_persons_105 rfl ?_
    refine g_dup2 hB rfl rfl dL_persons_107 ?_
    refine g_iald hB 22 0 10 (n := 12) (by decide) rfl (by first | assumption | omega) (Nat.le_of_ble_eq_true rfl) dL_persons_108 ?_
    refine g_iload hB 10 dL_persons_109 rfl ?_
    refine g_if_eq hB 121 dL_persons_111 (by decide) (fun z => absurd z (by decide)) (fun _ => ?_)
    refine g_iconst hB (nI 1) dL_persons_114 rfl ?_
    refine g_iload hB 9 dL_persons_115 rfl ?_
    refine g_ishl hB dL_persons_117 ?_
    refine g_goto hB 122 dL_persons_118 (by decide) ?_
    refine g_ixor hB dL_persons_122 ?_
    refine s_iast hB 22 0 10 (n := 12) (by decide) (fun _ => rfl) (by first | assumption | omega) (Nat.le_of_ble_eq_true rfl) dL_persons_123 ?_
    refine g_gh (coA S a) coA_gh ?_
    refine g_aload_n hB 0 dL_persons_124 rfl rfl ?_
    refine g_iload hB 9 dL_persons_125 rfl ?_
    refine g_callHSI hB (c_L_comes hl _ _ (by rw [hc]; decide)) k_L_161 yk_L_comes ⟨Nat.le_of_ble_eq_true rfl, Nat.le_of_ble_eq_true rfl⟩ rfl (Nat.le_of_ble_eq_true rfl) ⟨Nat.le_of_ble_eq_true rfl, Nat.le_of_ble_eq_true rfl⟩ dL_persons_127 ?_
    rintro _ _ ⟨rfl, rfl⟩
    refine g_top (nI (0)) (by rw [hc]; rfl) ?_
    refine g_iload hB 10 dL_persons_130 rfl ?_
    refine g_if_eq hB 139 dL_persons_132 (by decide) (fun z => absurd z (by decide)) (fun _ => ?_)
    refine g_iconst hB (nI 0) dL_persons_135 rfl ?_
    refine g_goto hB 141 dL_persons_136 (by decide) ?_
    refine n_icmp_ne hB 0 0 148 dL_persons_141 (by decide) (by decide) (by decide) (fun z => absurd z (by decide)) (fun _ => ?_)
    refine g_iconst hB (nI 1) dL_persons_144 rfl ?_
    refine g_goto hB 149 dL_persons_145 (by decide) ?_
    exact g_iret hB hr rfl (Nat.le_of_ble_eq_true rfl) (Nat.le_of_ble_eq_true rfl) (⟨_, rfl, rfl, by rw [hc, ix_nI (by omega)]; exact TI_co h hL0 hH ht hmo ha hs⟩) dL_persons_149
  refine g_iload_n hB 2 dL_persons_0 rfl rfl ?_
  refine g_iconst hB (nI 5) dL_persons_1 rfl ?_
  refine g_callSI hB (c_L_low _ _ _ (by omega) (by omega)) k_L_125 yk_L_low ⟨Nat.le_of_ble_eq_true rfl, Nat.le_of_ble_eq_true rfl⟩ rfl (Nat.le_of_ble_eq_true rfl) ⟨Nat.le_of_ble_eq_true rfl, Nat.le_of_ble_eq_true rfl⟩ dL_persons_2 ?_
  rintro _ _ ⟨a, ha, rfl, rfl⟩
  refine g_istore hB 9 dL_persons_5 (by decide) ?_
  refine g_iload_n hB 1 dL_persons_7 rfl rfl ?_
  refine g_if_ne hB 67 dL_persons_8 (by decide) (fun _ => ?_) (fun z => absurd z (by decide))
  refine g_iload_n hB 1 dL_persons_67 rfl rfl ?_
  refine g_iconst hB (nI 1) dL_persons_68 rfl ?_
  refine n_icmp_ne hB 1 1 150 dL_persons_69 (by decide) (by decide) (by decide) (fun z => absurd z (by decide)) (fun _ => ?_)
  refine g_aload_n hB 3 dL_persons_72 rfl rfl ?_
  refine g_bipush hB (nI 10) dL_persons_73 rfl ?_
  refine g_iald hB 22 0 10 (n := 12) (by decide) rfl (by first | assumption | omega) (Nat.le_of_ble_eq_true rfl) dL_persons_75 ?_
  refine g_iload hB 9 dL_persons_76 rfl ?_
  refine g_ishr hB dL_persons_78 ?_
  refine g_iconst hB (nI 1) dL_persons_79 rfl ?_
  refine g_iand hB dL_persons_80 ?_
  refine g_iconst hB (nI 1) dL_persons_81 rfl ?_
  refine g_icmp_ne hB 101 dL_persons_82 (by decide) (fun c_82 => ?_) (fun c_82 => ?_)
  · have hs : S 18 1 a ≠ nI 1 := fun z => by
      have := (hG a ha).2.1
      rw [cnt_bit, z] at this
      exact c_82 (of_decide_eq_true this)
    refine g_iconst hB (nI 0) dL_persons_101 rfl ?_
    refine g_istore hB 10 dL_persons_102 (by decide) ?_
    exact g_sub _ rfl (no a ha hs)
  · refine g_aload_n hB 3 dL_persons_85 rfl rfl ?_
    refine g_bipush hB (nI 11) dL_persons_86 rfl ?_
    refine g_iald hB 22 0 11 (n := 12) (by decide) rfl (by first | assumption | omega) (Nat.le_of_ble_eq_true rfl) dL_persons_88 ?_
    refine g_iload hB 9 dL_persons_89 rfl ?_
    refine g_ishr hB dL_persons_91 ?_
    refine g_iconst hB (nI 1) dL_persons_92 rfl ?_
    refine g_iand hB dL_persons_93 ?_
    refine g_if_ne hB 101 dL_persons_94 (by decide) (fun c_94 => ?_) (fun c_94 => ?_)
    · have hs : S 18 1 a ≠ nI 1 := fun z => by
        have := (hG a ha).2.2
        rw [z] at this
        exact of_decide_eq_false this c_94
      refine g_iconst hB (nI 0) dL_persons_101 rfl ?_
      refine g_istore hB 10 dL_persons_102 (by decide) ?_
      exact g_sub _ rfl (no a ha hs)
    · have hs : S 18 1 a = nI 1 := by
        obtain ⟨g1, g2, g3⟩ := hG a ha
        rcases g1 with z | z | z
        · rw [z, cnt_bit] at g2
          exact absurd c_82 (of_decide_eq_false g2)
        · exact z
        · rw [z] at g3
          exact absurd c_94 (of_decide_eq_true g3)
      refine g_iconst hB (nI 1) dL_persons_97 rfl ?_
      refine g_goto hB 102 dL_persons_98 (by decide) ?_
      refine g_istore hB 10 dL_persons_102 (by decide) ?_
      exact g_sub _ rfl (yes a ha hs)
theorem c_L_persons_2 (hl : l.stackTraces = false) (S : Mem) (ng nm nc t pa rk mo kk : Nat) (h : INV S ng nm nc t pa rk mo) (hL : LR S ng nm nc t pa rk) (hH : LH S nm t) (ht : t ≤ 60 * kk) (hmo : mo ≤ kk) (hnc0 : 0 < nc) (v : Int32) : CI l yL_persons cL_persons 12 (some .boolean) { frames := 9, cells := 32, slots := 192, locals := 160 } D ad CNT ca SR (SH ad ca S) [.ref (ad 0 0), .int (nI 2), .int (v), .ref (ad 22 0), .ref (ad 22 1), .ref (ad 22 2), .ref (ad 22 3), .ref (ad 22 4), .ref (ad 22 5)] (TPP ad ca kk) := by
  have hR := h.2.1
  have hL0 := hL
  obtain ⟨⟨⟨q0, q1, q2, q3, q4, q5⟩, hng1, hng4, hnm3, hnc12, ht20, hrk20, hpa12⟩, hD, hG, hN, hT, hZ, hC, hCz, hA, hGa, hE⟩ := hL
  have hbd := qv_bd h
  have hTI : TI S kk := ⟨ng, nm, nc, t, pa, rk, mo, h, hL0, hH, ht, hmo⟩
  refine CI.of _ RL (by decide +kernel) rfl (Nat.le_of_ble_eq_true rfl) ?_
  intro p9 e9 s9 m9 a9 b9 me9 c9 A9 hB hr hnm9
  have mid : ∀ c, c < nc → G p9 l e9 { frames := 9, cells := 32, slots := 192, locals := 160 } s9 m9 a9 b9 me9 c9 D ad A9 12 (MQ b9 (va_Qi (TPP ad ca kk) (fun E' t => WW D ad CNT A9 E' t.heap) A9) a9 s9 32 192 A9) 0 0 CNT (SH ad ca (S)) 166 [(0, .ref (ad 0 0)), (1, .int (nI 2)), (2, .int (v)), (3, .ref (ad 22 0)), (4, .ref (ad 22 1)), (5, .ref (ad 22 2)), (6, .ref (ad 22 3)), (7, .ref (ad 22 4)), (8, .ref (ad 22 5)), (10, .int (nI c))] [] := by
    intro c hc
    obtain ⟨p', k', w, st, -, -, -, -, a5, a6, b1, b2, b3, b4, b5, b6, b7, b8, bx⟩ := hC c hc
    have hwd := wdC_is h hc
    rcases Nat.eq_zero_or_pos st with z | z
    · rw [z] at b7 b8
      have hs : S 18 11 c = 0 := b8
      have hw0 : wdC (wdA S c) (nI c) nc = 0 := by
        have : wdC S (nI c) nc = 0 := by rw [hwd, hs]; rfl
        exact this
      have hKI : KI (wdA S c) ng nm nc t pa := h.1
      refine g_aload hB 6 dL_persons_166 rfl ?_
      refine g_iconst hB (nI 5) dL_persons_168 rfl ?_
      refine g_iload hB 10 dL_persons_169 rfl ?_
      refine g_imul hB dL_persons_171 ?_
      refine g_top (nI (5 * c)) (pk_mul _ _) ?_
      refine g_iconst hB (nI 3) dL_persons_172 rfl ?_
      refine g_iadd hB dL_persons_173 ?_
      refine g_top (nI (5 * c + 3)) (nI_add _ _) ?_
      refine g_iald hB 22 3 (5 * c + 3) (n := 60) (by decide) rfl (by first | assumption | omega) (Nat.le_of_ble_eq_true rfl) dL_persons_174 ?_
      refine g_top (nI (0)) (b7) ?_
      refine g_if_ne hB 182 dL_persons_175 (by decide) (fun z => absurd rfl z) (fun _ => ?_)
      refine g_iconst hB (nI 1) dL_persons_178 rfl ?_
      refine g_goto hB 183 dL_persons_179 (by decide) ?_
      refine g_istore hB 11 dL_persons_183 (by decide) ?_
      refine g_aload hB 6 dL_persons_185 rfl ?_
      refine g_iconst hB (nI 5) dL_persons_187 rfl ?_
      refine g_iload hB 10 dL_persons_188 rfl ?_
      refine g_imul hB dL_persons_190 ?_
      refine g_top (nI (5 * c)) (pk_mul _ _) ?_
      refine g_iconst hB (nI 3) dL_persons_191 rfl ?_
      refine g_iadd hB dL_persons_192 ?_
      refine g_top (nI (5 * c + 3)) (nI_add _ _) ?_
      refine g_iload hB 11 dL_persons_193 rfl ?_
      refine g_if_eq hB 202 dL_persons_195 (by decide) (fun z => absurd z (by decide)) (fun _ => ?_)
      refine g_iconst hB (nI 3) dL_persons_198 rfl ?_
      refine g_goto hB 211 dL_persons_199 (by decide) ?_
      refine s_iast hB 22 3 (5 * c + 3) (n := 60) (by decide) (fun _ => rfl) (by first | assumption | omega) (Nat.le_of_ble_eq_true rfl) dL_persons_211 ?_
      refine g_gh (wdA S c) wdA_gh ?_
      refine g_aload_n hB 0 dL_persons_212 rfl rfl ?_
      refine g_iload hB 10 dL_persons_213 rfl ?_
      refine g_callHSI hB (c_L_withdraws hl _ ng nm nc t pa hKI _ (by rw [hw0]; decide)) k_L_165 yk_L_withdraws ⟨Nat.le_of_ble_eq_true rfl, Nat.le_of_ble_eq_true rfl⟩ rfl (Nat.le_of_ble_eq_true rfl) ⟨Nat.le_of_ble_eq_true rfl, Nat.le_of_ble_eq_true rfl⟩ dL_persons_215 ?_
      rintro _ _ ⟨rfl, rfl⟩
      refine g_top (nI (0)) (by rw [hw0]; rfl) ?_
      refine g_iload hB 11 dL_persons_218 rfl ?_
      refine g_if_eq hB 227 dL_persons_220 (by decide) (fun z => absurd z (by decide)) (fun _ => ?_)
      refine g_iconst hB (nI 0) dL_persons_223 rfl ?_
      refine g_goto hB 229 dL_persons_224 (by decide) ?_
      refine n_icmp_ne hB 0 0 236 dL_persons_229 (by decide) (by decide) (by decide) (fun z => absurd z (by decide)) (fun _ => ?_)
      refine g_iconst hB (nI 1) dL_persons_232 rfl ?_
      refine g_goto hB 237 dL_persons_233 (by decide) ?_
      exact g_iret hB hr rfl (Nat.le_of_ble_eq_true rfl) (Nat.le_of_ble_eq_true rfl) (⟨_, rfl, rfl, by rw [hw0, ix_nI (by omega)]; exact TI_wd h hL0 hH ht hmo hc hs⟩) dL_persons_237
    · have hw0 : wdC S (nI c) nc = 2 := by rw [hwd, b8, decide_eq_false (p := nI st = 0) (nI_no0 z (by omega))]; rfl
      refine g_aload hB 6 dL_persons_166 rfl ?_
      refine g_iconst hB (nI 5) dL_persons_168 rfl ?_
      refine g_iload hB 10 dL_persons_169 rfl ?_
      refine g_imul hB dL_persons_171 ?_
      refine g_top (nI (5 * c)) (pk_mul _ _) ?_
      refine g_iconst hB (nI 3) dL_persons_172 rfl ?_
      refine g_iadd hB dL_persons_173 ?_
      refine g_top (nI (5 * c + 3)) (nI_add _ _) ?_
      refine g_iald hB 22 3 (5 * c + 3) (n := 60) (by decide) rfl (by first | assumption | omega) (Nat.le_of_ble_eq_true rfl) dL_persons_174 ?_
      refine g_top (nI (st)) (b7) ?_
      refine g_if_ne hB 182 dL_persons_175 (by decide) (fun c_175 => ?_) (fun c_175 => ?_)
      · refine g_iconst hB (nI 0) dL_persons_182 rfl ?_
        refine g_istore hB 11 dL_persons_183 (by decide) ?_
        refine g_aload hB 6 dL_persons_185 rfl ?_
        refine g_iconst hB (nI 5) dL_persons_187 rfl ?_
        refine g_iload hB 10 dL_persons_188 rfl ?_
        refine g_imul hB dL_persons_190 ?_
        refine g_top (nI (5 * c)) (pk_mul _ _) ?_
        refine g_iconst hB (nI 3) dL_persons_191 rfl ?_
        refine g_iadd hB dL_persons_192 ?_
        refine g_top (nI (5 * c + 3)) (nI_add _ _) ?_
        refine g_iload hB 11 dL_persons_193 rfl ?_
        refine g_if_eq hB 202 dL_persons_195 (by decide) (fun _ => ?_) (fun z => absurd rfl z)
        refine g_aload hB 6 dL_persons_202 rfl ?_
        refine g_iconst hB (nI 5) dL_persons_204 rfl ?_
        refine g_iload hB 10 dL_persons_205 rfl ?_
        refine g_imul hB dL_persons_207 ?_
        refine g_top (nI (5 * c)) (pk_mul _ _) ?_
        refine g_iconst hB (nI 3) dL_persons_208 rfl ?_
        refine g_iadd hB dL_persons_209 ?_
        refine g_top (nI (5 * c + 3)) (nI_add _ _) ?_
        refine g_iald hB 22 3 (5 * c + 3) (n := 60) (by decide) rfl (by first | assumption | omega) (Nat.le_of_ble_eq_true rfl) dL_persons_210 ?_
        refine g_top ((S 22 3 (5 * c + 3))) (rfl) ?_
        refine s_iast hB 22 3 (5 * c + 3) (n := 60) (by decide) (fun _ => rfl) (by first | assumption | omega) (Nat.le_of_ble_eq_true rfl) dL_persons_211 ?_
        refine s_eq S uM_self ?_
        refine g_aload_n hB 0 dL_persons_212 rfl rfl ?_
        refine g_iload hB 10 dL_persons_213 rfl ?_
        refine g_callHSI hB (c_L_withdraws hl _ ng nm nc t pa h.1 _ (by rw [hw0]; decide)) k_L_165 yk_L_withdraws ⟨Nat.le_of_ble_eq_true rfl, Nat.le_of_ble_eq_true rfl⟩ rfl (Nat.le_of_ble_eq_true rfl) ⟨Nat.le_of_ble_eq_true rfl, Nat.le_of_ble_eq_true rfl⟩ dL_persons_215 ?_
        rintro _ _ ⟨rfl, rfl⟩
        refine g_top ((-3)) (by rw [hw0]; rfl) ?_
        refine g_iload hB 11 dL_persons_218 rfl ?_
        refine g_if_eq hB 227 dL_persons_220 (by decide) (fun _ => ?_) (fun z => absurd rfl z)
        refine g_bipush hB (-3) dL_persons_227 rfl ?_
        refine g_icmp_ne hB 236 dL_persons_229 (by decide) (fun c_229 => ?_) (fun c_229 => ?_)
        · exact absurd rfl c_229
        · refine g_iconst hB (nI 1) dL_persons_232 rfl ?_
          refine g_goto hB 237 dL_persons_233 (by decide) ?_
          exact g_iret hB hr rfl (Nat.le_of_ble_eq_true rfl) (Nat.le_of_ble_eq_true rfl) (⟨_, rfl, rfl, by rw [hw0]; exact TI_s hTI⟩) dL_persons_237
      · exact absurd c_175 (nI_no0 z (by omega))
  refine g_iload_n hB 2 dL_persons_0 rfl rfl ?_
  refine g_iconst hB (nI 5) dL_persons_1 rfl ?_
  refine g_callSI hB (c_L_low _ _ _ (by omega) (by omega)) k_L_125 yk_L_low ⟨Nat.le_of_ble_eq_true rfl, Nat.le_of_ble_eq_true rfl⟩ rfl (Nat.le_of_ble_eq_true rfl) ⟨Nat.le_of_ble_eq_true rfl, Nat.le_of_ble_eq_true rfl⟩ dL_persons_2 ?_
  rintro _ _ ⟨a, ha, rfl, rfl⟩
  refine g_istore hB 9 dL_persons_5 (by decide) ?_
  refine g_iload_n hB 1 dL_persons_7 rfl rfl ?_
  refine g_if_ne hB 67 dL_persons_8 (by decide) (fun _ => ?_) (fun z => absurd z (by decide))
  refine g_iload_n hB 1 dL_persons_67 rfl rfl ?_
  refine g_iconst hB (nI 1) dL_persons_68 rfl ?_
  refine n_icmp_ne hB 2 1 150 dL_persons_69 (by decide) (by decide) (by decide) (fun _ => ?_) (fun z => absurd z (by decide))
  refine g_iload_n hB 2 dL_persons_150 rfl rfl ?_
  refine g_iconst hB (nI 3) dL_persons_151 rfl ?_
  refine g_ishr hB dL_persons_152 ?_
  refine g_aload_n hB 3 dL_persons_153 rfl rfl ?_
  refine g_iconst hB (nI 4) dL_persons_154 rfl ?_
  refine g_iald hB 22 0 4 (n := 12) (by decide) rfl (by first | assumption | omega) (Nat.le_of_ble_eq_true rfl) dL_persons_155 ?_
  refine g_top (nI (nc)) (q4) ?_
  refine g_callSI hB (c_L_low _ _ _ (by omega) (by omega)) k_L_125 yk_L_low ⟨Nat.le_of_ble_eq_true rfl, Nat.le_of_ble_eq_true rfl⟩ rfl (Nat.le_of_ble_eq_true rfl) ⟨Nat.le_of_ble_eq_true rfl, Nat.le_of_ble_eq_true rfl⟩ dL_persons_156 ?_
  rintro _ _ ⟨c, hc, rfl, rfl⟩
  refine g_istore hB 10 dL_persons_159 (by decide) ?_
  refine g_iload_n hB 1 dL_persons_161 rfl rfl ?_
  refine g_iconst hB (nI 2) dL_persons_162 rfl ?_
  refine n_icmp_ne hB 2 2 238 dL_persons_163 (by decide) (by decide) (by decide) (fun z => absurd z (by decide)) (fun _ => ?_)
  exact g_sub _ rfl (mid c hc)
theorem c_L_persons_3 (hl : l.stackTraces = false) (S : Mem) (ng nm nc t pa rk mo kk : Nat) (h : INV S ng nm nc t pa rk mo) (hL : LR S ng nm nc t pa rk) (hH : LH S nm t) (ht : t ≤ 60 * kk) (hmo : mo ≤ kk) (hkk : kk < 90) (hnc0 : 0 < nc) (v : Int32) : CI l yL_persons cL_persons 12 (some .boolean) { frames := 9, cells := 32, slots := 192, locals := 160 } D ad CNT ca SR (SH ad ca S) [.ref (ad 0 0), .int (nI 3), .int (v), .ref (ad 22 0), .ref (ad 22 1), .ref (ad 22 2), .ref (ad 22 3), .ref (ad 22 4), .ref (ad 22 5)] (TPP ad ca kk) := by
  have hR := h.2.1
  have hL0 := hL
  obtain ⟨⟨⟨q0, q1, q2, q3, q4, q5⟩, hng1, hng4, hnm3, hnc12, ht20, hrk20, hpa12⟩, hD, hG, hN, hT, hZ, hC, hCz, hA, hGa, hE⟩ := hL
  have hbd := qv_bd h
  have hrkm : rk ≤ mo := h.2.2.1.1.2.2
  have h12 : S 17 0 12 = nI rk := h.2.2.1.1.2.1
  have hTI : TI S kk := ⟨ng, nm, nc, t, pa, rk, mo, h, hL0, hH, ht, hmo⟩
  refine CI.of _ RL (by decide +kernel) rfl (Nat.le_of_ble_eq_true rfl) ?_
  intro p9 e9 s9 m9 a9 b9 me9 c9 A9 hB hr hnm9
  have mid : ∀ a c, a < 5 → c < nc → G p9 l e9 { frames := 9, cells := 32, slots := 192, locals := 160 } s9 m9 a9 b9 me9 c9 D ad A9 12 (MQ b9 (va_Qi (TPP ad ca kk) (fun E' t => WW D ad CNT A9 E' t.heap) A9) a9 s9 32 192 A9) 0 0 CNT (SH ad ca (S)) 282 [(0, .ref (ad 0 0)), (1, .int (nI 3)), (2, .int (v)), (3, .ref (ad 22 0)), (4, .ref (ad 22 1)), (5, .ref (ad 22 2)), (6, .ref (ad 22 3)), (7, .ref (ad 22 4)), (8, .ref (ad 22 5)), (9, .int (nI a)), (10, .int (nI c))] [] := by
    intro a c ha hc
    have hgd := hgd_of h hc
    cases hok : okR S a c t with
    | false =>
      have ha2 : apC S (nI a) (nI c) nc t = 2 := by rw [apC_ok h (by omega) hc, hok]; rfl
      refine g_aload_n hB 0 dL_persons_282 rfl rfl ?_
      refine g_iconst hB (nI 1) dL_persons_283 rfl ?_
      refine g_iload hB 9 dL_persons_284 rfl ?_
      refine g_iload hB 10 dL_persons_286 rfl ?_
      refine g_iconst hB (nI 0) dL_persons_288 rfl ?_
      refine g_iconst hB (nI 0) dL_persons_289 rfl ?_
      refine g_callHSI hB (c_L_calls_approve hl _ ng nm nc t pa h.1 _ _ (by rw [ha2]; decide)) k_L_139 yk_L_calls ⟨Nat.le_of_ble_eq_true rfl, Nat.le_of_ble_eq_true rfl⟩ rfl (Nat.le_of_ble_eq_true rfl) ⟨Nat.le_of_ble_eq_true rfl, Nat.le_of_ble_eq_true rfl⟩ dL_persons_290 ?_
      rintro _ _ ⟨rfl, rfl⟩
      refine g_top ((-3)) (by rw [ha2]; rfl) ?_
      refine s_eq S (by rw [ha2]; rfl) ?_
      refine g_iload hB 9 dL_persons_293 rfl ?_
      refine g_iload hB 10 dL_persons_295 rfl ?_
      refine g_aload_n hB 3 dL_persons_297 rfl rfl ?_
      refine g_aload hB 6 dL_persons_298 rfl ?_
      refine g_aload hB 7 dL_persons_300 rfl ?_
      refine g_aload hB 8 dL_persons_302 rfl ?_
      refine g_callSI hB (c_L_approves _ ng nm nc t pa rk hL0 hR a c ha hc h12 (by omega) hgd) k_L_168 yk_L_approves ⟨Nat.le_of_ble_eq_true rfl, Nat.le_of_ble_eq_true rfl⟩ rfl (Nat.le_of_ble_eq_true rfl) ⟨Nat.le_of_ble_eq_true rfl, Nat.le_of_ble_eq_true rfl⟩ dL_persons_304 ?_
      rintro _ _ (⟨-, rfl, rfl⟩ | ⟨z1, -⟩)
      rotate_left
      · rw [apG_ok, hok] at z1; cases z1
      refine g_top ((-3)) (rfl) ?_
      refine g_icmp_ne hB 314 dL_persons_307 (by decide) (fun c_307 => ?_) (fun c_307 => ?_)
      · exact absurd rfl c_307
      · refine g_iconst hB (nI 1) dL_persons_310 rfl ?_
        refine g_goto hB 315 dL_persons_311 (by decide) ?_
        exact g_iret hB hr rfl (Nat.le_of_ble_eq_true rfl) (Nat.le_of_ble_eq_true rfl) (⟨S, rfl, rfl, TI_s hTI⟩) dL_persons_315
    | true =>
      have ha2 : apC S (nI a) (nI c) nc t = 0 := by rw [apC_ok h (by omega) hc, hok]; rfl
      have k18 : apM S a c nc 18 = S 18 := apM_k (by decide) (by decide) (by decide) (by decide) (by decide) (by decide)
      have k17 : apM S a c nc 17 = S 17 := apM_k (by decide) (by decide) (by decide) (by decide) (by decide) (by decide)
      have k22 : apM S a c nc 22 = S 22 := apM_k (by decide) (by decide) (by decide) (by decide) (by decide) (by decide)
      have fin : ∀ (A1 : Mem) (rk' : Nat), (∀ k, k ≠ 22 → A1 k = (rAppr (apG1 (GB (apM S a c nc) (apM S a c nc 9 c 4)) a c t) c).2 k) → LR A1 ng nm nc t pa rk' → A1 17 0 12 = nI rk' → apM S a c nc 9 c 4 = (rAppr (apG1 (GB (apM S a c nc) (apM S a c nc 9 c 4)) a c t) c).1 ∧ TI A1 (kk + 1) := fun A1 rk' z1 z2 z3 => TI_ap h hH ht hmo hkk (by omega) hc hok z1 z2 z3
      generalize hV : apM S a c nc 9 c 4 = V at fin
      have hLB : LR (GB (apM S a c nc) V) ng nm nc t pa rk := LR_fr hL0 (GB_18 k18) (GB_22 k22)
      have hRB : RI (GB (apM S a c nc) V) ng nm nc t pa := GB_RI k17 k18 hR
      have h12B : GB (apM S a c nc) V 17 0 12 = nI rk := (GB_17 k17 (by decide)).trans h12
      have hgdB : GB (apM S a c nc) V 18 11 c ≠ nI 1 → GB (apM S a c nc) V 18 11 c ≠ nI 3 → mGood (GB (apM S a c nc) V) c ≤ 1 := by
        unfold mGood at hgd ⊢
        rw [GB_18 k18]
        exact hgd
      have hokB : apG (GB (apM S a c nc) V) a c t = true := by rw [apG_ok, okR_18 (GB_18 k18)]; exact hok
      refine g_aload_n hB 0 dL_persons_282 rfl rfl ?_
      refine g_iconst hB (nI 1) dL_persons_283 rfl ?_
      refine g_iload hB 9 dL_persons_284 rfl ?_
      refine g_iload hB 10 dL_persons_286 rfl ?_
      refine g_iconst hB (nI 0) dL_persons_288 rfl ?_
      refine g_iconst hB (nI 0) dL_persons_289 rfl ?_
      refine g_callHSI hB (c_L_calls_approve hl _ ng nm nc t pa h.1 _ _ (by rw [ha2]; decide)) k_L_139 yk_L_calls ⟨Nat.le_of_ble_eq_true rfl, Nat.le_of_ble_eq_true rfl⟩ rfl (Nat.le_of_ble_eq_true rfl) ⟨Nat.le_of_ble_eq_true rfl, Nat.le_of_ble_eq_true rfl⟩ dL_persons_290 ?_
      rintro _ _ ⟨rfl, rfl⟩
      refine g_top ((V)) (by rw [ha2, ix_nI (by omega), ix_nI (by omega)]; exact hV) ?_
      refine s_eq (apM S a c nc) (by rw [ha2, ix_nI (by omega), ix_nI (by omega)]; rfl) ?_
      refine g_gh (GB (apM S a c nc) V) GB_gh ?_
      refine g_iload hB 9 dL_persons_293 rfl ?_
      refine g_iload hB 10 dL_persons_295 rfl ?_
      refine g_aload_n hB 3 dL_persons_297 rfl rfl ?_
      refine g_aload hB 6 dL_persons_298 rfl ?_
      refine g_aload hB 7 dL_persons_300 rfl ?_
      refine g_aload hB 8 dL_persons_302 rfl ?_
      refine g_callSI hB (c_L_approves _ ng nm nc t pa rk hLB hRB a c ha hc h12B (by omega) hgdB) k_L_168 yk_L_approves ⟨Nat.le_of_ble_eq_true rfl, Nat.le_of_ble_eq_true rfl⟩ rfl (Nat.le_of_ble_eq_true rfl) ⟨Nat.le_of_ble_eq_true rfl, Nat.le_of_ble_eq_true rfl⟩ dL_persons_304 ?_
      rintro _ _ (⟨z1, -, -⟩ | ⟨-, A1, rk1, rfl, rfl, hA1, hLA1, h121, -⟩)
      · rw [hokB] at z1; cases z1
      refine g_top ((V)) ((fin A1 rk1 hA1 hLA1 h121).1.symm) ?_
      refine g_icmp_ne hB 314 dL_persons_307 (by decide) (fun c_307 => ?_) (fun c_307 => ?_)
      · exact absurd rfl c_307
      · refine g_iconst hB (nI 1) dL_persons_310 rfl ?_
        refine g_goto hB 315 dL_persons_311 (by decide) ?_
        exact g_iret hB hr rfl (Nat.le_of_ble_eq_true rfl) (Nat.le_of_ble_eq_true rfl) (⟨A1, rfl, rfl, (fin A1 rk1 hA1 hLA1 h121).2⟩) dL_persons_315
  refine g_iload_n hB 2 dL_persons_0 rfl rfl ?_
  refine g_iconst hB (nI 5) dL_persons_1 rfl ?_
  refine g_callSI hB (c_L_low _ _ _ (by omega) (by omega)) k_L_125 yk_L_low ⟨Nat.le_of_ble_eq_true rfl, Nat.le_of_ble_eq_true rfl⟩ rfl (Nat.le_of_ble_eq_true rfl) ⟨Nat.le_of_ble_eq_true rfl, Nat.le_of_ble_eq_true rfl⟩ dL_persons_2 ?_
  rintro _ _ ⟨a, ha, rfl, rfl⟩
  refine g_istore hB 9 dL_persons_5 (by decide) ?_
  refine g_iload_n hB 1 dL_persons_7 rfl rfl ?_
  refine g_if_ne hB 67 dL_persons_8 (by decide) (fun _ => ?_) (fun z => absurd z (by decide))
  refine g_iload_n hB 1 dL_persons_67 rfl rfl ?_
  refine g_iconst hB (nI 1) dL_persons_68 rfl ?_
  refine n_icmp_ne hB 3 1 150 dL_persons_69 (by decide) (by decide) (by decide) (fun _ => ?_) (fun z => absurd z (by decide))
  refine g_iload_n hB 2 dL_persons_150 rfl rfl ?_
  refine g_iconst hB (nI 3) dL_persons_151 rfl ?_
  refine g_ishr hB dL_persons_152 ?_
  refine g_aload_n hB 3 dL_persons_153 rfl rfl ?_
  refine g_iconst hB (nI 4) dL_persons_154 rfl ?_
  refine g_iald hB 22 0 4 (n := 12) (by decide) rfl (by first | assumption | omega) (Nat.le_of_ble_eq_true rfl) dL_persons_155 ?_
  refine g_top (nI (nc)) (q4) ?_
  refine g_callSI hB (c_L_low _ _ _ (by omega) (by omega)) k_L_125 yk_L_low ⟨Nat.le_of_ble_eq_true rfl, Nat.le_of_ble_eq_true rfl⟩ rfl (Nat.le_of_ble_eq_true rfl) ⟨Nat.le_of_ble_eq_true rfl, Nat.le_of_ble_eq_true rfl⟩ dL_persons_156 ?_
  rintro _ _ ⟨c, hc, rfl, rfl⟩
  refine g_istore hB 10 dL_persons_159 (by decide) ?_
  refine g_iload_n hB 1 dL_persons_161 rfl rfl ?_
  refine g_iconst hB (nI 2) dL_persons_162 rfl ?_
  refine n_icmp_ne hB 3 2 238 dL_persons_163 (by decide) (by decide) (by decide) (fun _ => ?_) (fun z => absurd z (by decide))
  refine g_iload_n hB 2 dL_persons_238 rfl rfl ?_
  refine g_bipush hB (nI 9) dL_persons_239 rfl ?_
  refine g_ishr hB dL_persons_241 ?_
  refine g_iconst hB (nI 3) dL_persons_242 rfl ?_
  refine g_callSI hB (c_L_low _ _ _ (by omega) (by omega)) k_L_125 yk_L_low ⟨Nat.le_of_ble_eq_true rfl, Nat.le_of_ble_eq_true rfl⟩ rfl (Nat.le_of_ble_eq_true rfl) ⟨Nat.le_of_ble_eq_true rfl, Nat.le_of_ble_eq_true rfl⟩ dL_persons_243 ?_
  rintro _ _ ⟨y, hy, rfl, rfl⟩
  refine g_if_le hB 278 dL_persons_246 (by decide) (fun c_246 => ?_) (fun c_246 => ?_)
  · refine g_iload hB 10 dL_persons_278 rfl ?_
    refine g_istore hB 10 dL_persons_280 (by decide) ?_
    exact g_sub _ rfl (mid a c ha hc)
  · refine g_aload_n hB 3 dL_persons_249 rfl rfl ?_
    refine g_iconst hB (nI 4) dL_persons_250 rfl ?_
    refine g_iald hB 22 0 4 (n := 12) (by decide) rfl (by first | assumption | omega) (Nat.le_of_ble_eq_true rfl) dL_persons_251 ?_
    refine g_top (nI (nc)) (q4) ?_
    refine g_iconst hB (nI 1) dL_persons_252 rfl ?_
    refine g_isub hB dL_persons_253 ?_
    refine g_top (nI (nc - 1)) (pk_sub (by omega)) ?_
    refine g_iload_n hB 2 dL_persons_254 rfl rfl ?_
    refine g_iconst hB (nI 3) dL_persons_255 rfl ?_
    refine g_ishr hB dL_persons_256 ?_
    refine g_aload_n hB 3 dL_persons_257 rfl rfl ?_
    refine g_iconst hB (nI 4) dL_persons_258 rfl ?_
    refine g_iald hB 22 0 4 (n := 12) (by decide) rfl (by first | assumption | omega) (Nat.le_of_ble_eq_true rfl) dL_persons_259 ?_
    refine g_top (nI (nc)) (q4) ?_
    refine g_iconst hB (nI 3) dL_persons_260 rfl ?_
    refine n_icmp_ge hB nc 3 270 dL_persons_261 (by decide) (by omega) (by omega) (fun c_261 => ?_) (fun c_261 => ?_)
    · refine g_iconst hB (nI 3) dL_persons_270 rfl ?_
      refine g_callSI hB (c_L_low _ _ _ (by omega) (by omega)) k_L_125 yk_L_low ⟨Nat.le_of_ble_eq_true rfl, Nat.le_of_ble_eq_true rfl⟩ rfl (Nat.le_of_ble_eq_true rfl) ⟨Nat.le_of_ble_eq_true rfl, Nat.le_of_ble_eq_true rfl⟩ dL_persons_271 ?_
      rintro _ _ ⟨i, hi, rfl, rfl⟩
      refine g_isub hB dL_persons_274 ?_
      refine g_top (nI (nc - 1 - i)) (pk_sub (by omega)) ?_
      refine g_goto hB 280 dL_persons_275 (by decide) ?_
      refine g_istore hB 10 dL_persons_280 (by decide) ?_
      exact g_sub _ rfl (mid a (nc - 1 - i) ha (by omega))
    · refine g_aload_n hB 3 dL_persons_264 rfl rfl ?_
      refine g_iconst hB (nI 4) dL_persons_265 rfl ?_
      refine g_iald hB 22 0 4 (n := 12) (by decide) rfl (by first | assumption | omega) (Nat.le_of_ble_eq_true rfl) dL_persons_266 ?_
      refine g_top (nI (nc)) (q4) ?_
      refine g_goto hB 271 dL_persons_267 (by decide) ?_
      refine g_callSI hB (c_L_low _ _ _ (by omega) (by omega)) k_L_125 yk_L_low ⟨Nat.le_of_ble_eq_true rfl, Nat.le_of_ble_eq_true rfl⟩ rfl (Nat.le_of_ble_eq_true rfl) ⟨Nat.le_of_ble_eq_true rfl, Nat.le_of_ble_eq_true rfl⟩ dL_persons_271 ?_
      rintro _ _ ⟨i, hi, rfl, rfl⟩
      refine g_isub hB dL_persons_274 ?_
      refine g_top (nI (nc - 1 - i)) (pk_sub (by omega)) ?_
      refine g_goto hB 280 dL_persons_275 (by decide) ?_
      refine g_istore hB 10 dL_persons_280 (by decide) ?_
      exact g_sub _ rfl (mid a (nc - 1 - i) ha (by omega))
end L13
