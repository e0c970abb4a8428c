/-! the law: pass -/
section L4
variable {l : Launch} {D : va_G} {ad : Nat → Nat → Nat} {ca : Nat → ClassId} {SR : List (String × Nat × String)}

theorem rDays_le {S : Mem} {nc nm pa : Nat} : ∀ n, (rDays S nc nm pa n).2 ≤ n * nm
  | 0 => Nat.zero_le _
  | n + 1 => by
    have ih := rDays_le (S := S) (nc := nc) (nm := nm) (pa := pa) n
    have := (pSts_le (S := uM (rDays S nc nm pa n).1 17 0 1 ((rDays S nc nm pa n).1 17 0 1 + nI 1)) (nc := nc) (pa := pa) nm).2
    show (rDays S nc nm pa n).2 + (rDay (rDays S nc nm pa n).1 nc nm pa).2 ≤ _
    have e : (rDay (rDays S nc nm pa n).1 nc nm pa).2 ≤ nm := this
    rw [Nat.succ_mul]
    omega
theorem c_L_pass (S : Mem) (ng nm nc t pa rk : Nat) (hL : LR S ng nm nc t pa rk) (hR : RI S ng nm nc t pa) (d : Nat) (hd : d ≤ 60) (htd : t + d < 2 ^ 20) : CI l yL_pass cL_pass 10 (some .int) { frames := 4, cells := 0, slots := 0, locals := 108 } D ad CNT ca SR (SH ad ca S) [.int (nI d), .ref (ad 22 0), .ref (ad 22 1), .ref (ad 22 2), .ref (ad 22 3)] (fun r E' => ∃ A', r = nI (rDays S nc nm pa d).2 ∧ E' = SH ad ca A' ∧ (∀ k, k ≠ 22 → A' k = (rDays S nc nm pa d).1 k) ∧ LR A' ng nm nc (t + d) pa rk) := by
  have hR0 := hR
  have hnm3 := hL.1.2.2.2.1
  have hpa := hL.1.2.2.2.2.2.2.2
  have ht20 := hL.1.2.2.2.2.2.1
  refine CI.of _ RL (by decide +kernel) rfl (Nat.le_of_ble_eq_true rfl) ?_
  intro p9 e9 s9 m9 a9 b9 me9 c9 A9 hB hr hnm9
  have loop : ∀ (n dd : Nat) (A : Mem), d - dd < n → dd ≤ d → (∀ k, k ≠ 22 → A k = (rDays S nc nm pa dd).1 k) → LR A ng nm nc (t + dd) pa rk → G p9 l e9 { frames := 4, cells := 0, slots := 0, locals := 108 } s9 m9 a9 b9 me9 c9 D ad A9 10 (MQ b9 (va_Qi (fun r E' => ∃ A', r = nI (rDays S nc nm pa d).2 ∧ E' = SH ad ca A' ∧ (∀ k, k ≠ 22 → A' k = (rDays S nc nm pa d).1 k) ∧ LR A' ng nm nc (t + d) pa rk) (fun E' t => WW D ad CNT A9 E' t.heap) A9) a9 s9 0 0 A9) 0 0 CNT (SH ad ca (A)) 6 [(0, .int (nI d)), (1, .ref (ad 22 0)), (2, .ref (ad 22 1)), (3, .ref (ad 22 2)), (4, .ref (ad 22 3)), (5, .int (nI ((rDays S nc nm pa dd).2))), (6, .int (nI dd))] [] := by
    intro n
    induction n with
    | zero => intro dd A h1; omega
    | succ n ih =>
      intro dd A h1 h2 hA hLA
      have hmany := rDays_le (S := S) (nc := nc) (nm := nm) (pa := pa) dd
      have hmm : (rDays S nc nm pa dd).2 ≤ 180 := Nat.le_trans hmany (by
        have : dd * nm ≤ 60 * 3 := Nat.mul_le_mul (by omega) hnm3
        omega)
      obtain ⟨⟨⟨q0, q1, q2, q3, q4, q5⟩, -⟩, -⟩ := id hLA
      have hRA : RI A ng nm nc (t + dd) pa := RI_fr (RI_days hR0 dd (by omega)) (hA 17 (by decide)) (hA 18 (by decide))
      obtain ⟨B0, hB0⟩ : ∃ B0, B0 = uM (rDays S nc nm pa dd).1 17 0 1 ((rDays S nc nm pa dd).1 17 0 1 + nI 1) := ⟨_, rfl⟩
      have hRB : dd < d → RI B0 ng nm nc (t + dd + 1) pa := fun hlt => by rw [hB0]; exact RI_now (RI_days hR0 dd (by omega)) (by omega)
      have eday : rDays S nc nm pa (dd + 1) = ((pSts nc (B0, pa, 0) nm).1, (rDays S nc nm pa dd).2 + (pSts nc (B0, pa, 0) nm).2.2) := by rw [hB0]; rfl
      have inner : dd < d → ∀ (n' j : Nat) (A1 : Mem), nm - j < n' → j ≤ nm → (∀ k, k ≠ 22 → A1 k = (pSts nc (B0, pa, 0) j).1 k) → LR A1 ng nm nc (t + dd + 1) pa rk → G p9 l e9 { frames := 4, cells := 0, slots := 0, locals := 108 } s9 m9 a9 b9 me9 c9 D ad A9 10 (MQ b9 (va_Qi (fun r E' => ∃ A', r = nI (rDays S nc nm pa d).2 ∧ E' = SH ad ca A' ∧ (∀ k, k ≠ 22 → A' k = (rDays S nc nm pa d).1 k) ∧ LR A' ng nm nc (t + d) pa rk) (fun E' t => WW D ad CNT A9 E' t.heap) A9) a9 s9 0 0 A9) 0 0 CNT (SH ad ca (A1)) 27 [(0, .int (nI d)), (1, .ref (ad 22 0)), (2, .ref (ad 22 1)), (3, .ref (ad 22 2)), (4, .ref (ad 22 3)), (5, .int (nI ((rDays S nc nm pa dd).2 + (pSts nc (B0, pa, 0) j).2.2))), (6, .int (nI dd)), (7, .int (nI ((pSts nc (B0, pa, 0) j).2.1))), (8, .int (nI j))] [] := by
        intro hlt n'
        induction n' with
        | zero => intro j A1 h3; omega
        | succ n' ih' =>
          intro j A1 h3 h4 hA1 hLA1
          obtain ⟨⟨⟨r0, r1, r2, r3, r4, r5⟩, -⟩, -⟩ := id hLA1
          have hle := pSts_le (S := B0) (nc := nc) (pa := pa) j
          rcases Nat.lt_or_ge j nm with hj | hj
          · have hRA1 : RI A1 ng nm nc (t + dd + 1) pa := RI_fr (RI_pSts (q := (B0, pa, 0)) (hRB hlt) j h4) (hA1 17 (by decide)) (hA1 18 (by decide))
            obtain ⟨y, hy⟩ : ∃ y, y = (pSts nc (B0, pa, 0) j).2.2 := ⟨_, rfl⟩
            obtain ⟨lf, hlf⟩ : ∃ lf, lf = (pSts nc (B0, pa, 0) j).2.1 := ⟨_, rfl⟩
            obtain ⟨P, hP⟩ : ∃ P, P = (pSts nc (B0, pa, 0) j).1 := ⟨_, rfl⟩
            have hq : pSts nc (B0, pa, 0) (j + 1) = pSt nc (P, lf, y) j := by rw [hP, hlf, hy]; rfl
            have hcg := pSt_cg (A := A1) (P := P) (nc := nc) (m := j) (l := lf) (y := y) (fun k hk => by rw [hP]; exact hA1 k hk)
            have hst := stA_eq (S := A1) (nc := nc) (m := j) (left := lf) (y := y)
            have hs2 := stN_2 (S := A1) (nc := nc) (m := j) (left := lf)
            have hLn := LR_stA (left := lf) hLA1 hRA1 hj
            have hih := ih' (j + 1) (stA A1 nc j lf) (by omega) (by omega) (fun k hk => by rw [hq, hst.1 k hk, hcg.1 k hk]) hLn
            have e21 : (pSts nc (B0, pa, 0) (j + 1)).2.1 = lf - (if stN A1 nc j lf = 2 then 1 else 0) := by rw [hq, ← hcg.2, hst.2.1]
            have e22 : (pSts nc (B0, pa, 0) (j + 1)).2.2 = y + (if 0 < stN A1 nc j lf then 1 else 0) := by rw [hq, ← hcg.2, hst.2.2]
            rw [e21, e22] at hih
            rw [← hy, ← hlf] at hle ⊢
            have hlf20 : lf ≤ pa := hle.1
            have hcall := c_L_steps (l := l) (D := D) (ad := ad) (ca := ca) (SR := SR) A1 ng nm nc (t + dd + 1) pa rk hLA1 hRA1 j lf hj (by omega)
            generalize stN A1 nc j lf = sn at hs2 hih hcall ⊢
            generalize stA A1 nc j lf = Tm at hLn hih hcall ⊢
            obtain ⟨my, hmy⟩ : ∃ my, my = (rDays S nc nm pa dd).2 + y := ⟨_, rfl⟩
            rw [show (rDays S nc nm pa dd).2 + (y + (if 0 < sn then 1 else 0)) = my + (if 0 < sn then 1 else 0) by omega] at hih
            rw [← hmy]
            refine g_iload hB 8 dL_pass_27 rfl ?_
            refine g_aload_n hB 1 dL_pass_29 rfl rfl ?_
            refine g_iconst hB (nI 3) dL_pass_30 rfl ?_
            refine g_iald hB 22 0 3 (n := 12) (by decide) rfl (by first | assumption | omega) (Nat.le_of_ble_eq_true rfl) dL_pass_31 ?_
            refine g_top (nI (nm)) (r3) ?_
            refine n_icmp_ge hB j nm 86 dL_pass_32 (by decide) (by omega) (by omega) (fun c_32 => ?_) (fun c_32 => ?_)
            · exact absurd c_32 (by omega)
            · refine g_iload hB 8 dL_pass_35 rfl ?_
              refine g_iload hB 7 dL_pass_37 rfl ?_
              refine g_aload_n hB 1 dL_pass_39 rfl rfl ?_
              refine g_aload_n hB 2 dL_pass_40 rfl rfl ?_
              refine g_aload_n hB 3 dL_pass_41 rfl rfl ?_
              refine g_aload hB 4 dL_pass_42 rfl ?_
              refine g_callSI hB (hcall) k_L_135 yk_L_steps ⟨Nat.le_of_ble_eq_true rfl, Nat.le_of_ble_eq_true rfl⟩ rfl (Nat.le_of_ble_eq_true rfl) ⟨Nat.le_of_ble_eq_true rfl, Nat.le_of_ble_eq_true rfl⟩ dL_pass_44 ?_
              rintro _ _ ⟨rfl, rfl⟩
              refine g_istore hB 9 dL_pass_47 (by decide) ?_
              refine g_iload hB 7 dL_pass_49 rfl ?_
              refine g_iload hB 9 dL_pass_51 rfl ?_
              refine g_iconst hB (nI 2) dL_pass_53 rfl ?_
              refine n_icmp_ne hB sn 2 61 dL_pass_54 (by decide) (by omega) (by omega) (fun c_54 => ?_) (fun c_54 => ?_)
              · have d_54 : decide (sn = 2) = false := decide_eq_false c_54
                refine g_iconst hB (nI 0) dL_pass_61 rfl ?_
                refine g_isub hB dL_pass_62 ?_
                refine g_top (nI (lf - (if sn = 2 then 1 else 0))) (by first | (rw [if_neg c_54]; exact pk_sub (Nat.zero_le _)) | (rw [if_pos c_54]; exact pk_sub (hs2.2 c_54))) ?_
                refine g_istore hB 7 dL_pass_63 (by decide) ?_
                refine g_iload hB 5 dL_pass_65 rfl ?_
                refine g_iload hB 9 dL_pass_67 rfl ?_
                refine g_if_le hB 76 dL_pass_69 (by decide) (fun c_69 => ?_) (fun c_69 => ?_)
                · have hs0 : ¬ 0 < sn := fun z => by obtain ⟨w, hw⟩ : ∃ w, sn = w + 1 := ⟨sn - 1, by omega⟩; rw [hw] at c_69; exact eg_le (by omega) c_69
                  rw [if_neg hs0] at hih
                  refine g_iconst hB (nI 0) dL_pass_76 rfl ?_
                  refine g_iadd hB dL_pass_77 ?_
                  refine g_top (nI (my + 0)) (nI_add _ _) ?_
                  refine g_istore hB 5 dL_pass_78 (by decide) ?_
                  refine g_iinc hB (nI (j + 1)) dL_pass_80 rfl (nI_1 _) (by decide) ?_
                  refine g_goto hB 27 dL_pass_83 (by decide) ?_
                  exact g_sub _ rfl hih
                · have hs0 : 0 < sn := by
                    rcases Nat.eq_zero_or_pos sn with z | z
                    · rw [z] at c_69; exact absurd (by decide) c_69
                    · exact z
                  rw [if_pos hs0] at hih
                  refine g_iconst hB (nI 1) dL_pass_72 rfl ?_
                  refine g_goto hB 77 dL_pass_73 (by decide) ?_
                  refine g_iadd hB dL_pass_77 ?_
                  refine g_top (nI (my + 1)) (nI_add _ _) ?_
                  refine g_istore hB 5 dL_pass_78 (by decide) ?_
                  refine g_iinc hB (nI (j + 1)) dL_pass_80 rfl (nI_1 _) (by decide) ?_
                  refine g_goto hB 27 dL_pass_83 (by decide) ?_
                  exact g_sub _ rfl hih
              · have d_54 : decide (sn = 2) = true := decide_eq_true c_54
                refine g_iconst hB (nI 1) dL_pass_57 rfl ?_
                refine g_goto hB 62 dL_pass_58 (by decide) ?_
                refine g_isub hB dL_pass_62 ?_
                refine g_top (nI (lf - (if sn = 2 then 1 else 0))) (by first | (rw [if_neg c_54]; exact pk_sub (Nat.zero_le _)) | (rw [if_pos c_54]; exact pk_sub (hs2.2 c_54))) ?_
                refine g_istore hB 7 dL_pass_63 (by decide) ?_
                refine g_iload hB 5 dL_pass_65 rfl ?_
                refine g_iload hB 9 dL_pass_67 rfl ?_
                refine g_if_le hB 76 dL_pass_69 (by decide) (fun c_69 => ?_) (fun c_69 => ?_)
                · have hs0 : ¬ 0 < sn := fun z => by obtain ⟨w, hw⟩ : ∃ w, sn = w + 1 := ⟨sn - 1, by omega⟩; rw [hw] at c_69; exact eg_le (by omega) c_69
                  rw [if_neg hs0] at hih
                  refine g_iconst hB (nI 0) dL_pass_76 rfl ?_
                  refine g_iadd hB dL_pass_77 ?_
                  refine g_top (nI (my + 0)) (nI_add _ _) ?_
                  refine g_istore hB 5 dL_pass_78 (by decide) ?_
                  refine g_iinc hB (nI (j + 1)) dL_pass_80 rfl (nI_1 _) (by decide) ?_
                  refine g_goto hB 27 dL_pass_83 (by decide) ?_
                  exact g_sub _ rfl hih
                · have hs0 : 0 < sn := by
                    rcases Nat.eq_zero_or_pos sn with z | z
                    · rw [z] at c_69; exact absurd (by decide) c_69
                    · exact z
                  rw [if_pos hs0] at hih
                  refine g_iconst hB (nI 1) dL_pass_72 rfl ?_
                  refine g_goto hB 77 dL_pass_73 (by decide) ?_
                  refine g_iadd hB dL_pass_77 ?_
                  refine g_top (nI (my + 1)) (nI_add _ _) ?_
                  refine g_istore hB 5 dL_pass_78 (by decide) ?_
                  refine g_iinc hB (nI (j + 1)) dL_pass_80 rfl (nI_1 _) (by decide) ?_
                  refine g_goto hB 27 dL_pass_83 (by decide) ?_
                  exact g_sub _ rfl hih
          · have hjn : j = nm := by omega
            subst hjn
            refine g_iload hB 8 dL_pass_27 rfl ?_
            refine g_aload_n hB 1 dL_pass_29 rfl rfl ?_
            refine g_iconst hB (nI 3) dL_pass_30 rfl ?_
            refine g_iald hB 22 0 3 (n := 12) (by decide) rfl (by first | assumption | omega) (Nat.le_of_ble_eq_true rfl) dL_pass_31 ?_
            refine g_top (nI (j)) (r3) ?_
            refine n_icmp_ge hB j j 86 dL_pass_32 (by decide) (by omega) (by omega) (fun c_32 => ?_) (fun c_32 => ?_)
            · refine g_iinc hB (nI (dd + 1)) dL_pass_86 rfl (nI_1 _) (by decide) ?_
              refine g_goto hB 6 dL_pass_89 (by decide) ?_
              refine g_sub _ ?_ (ih (dd + 1) A1 (by omega) (by omega) (fun k hk => by rw [eday]; exact hA1 k hk) hLA1)
              rw [eday]; rfl
            · exact absurd c_32 (by omega)
      rcases Nat.lt_or_ge dd d with hlt | hge
      · have hb := hA 22
        have eA1 : ∀ k, k ≠ 22 → uM (uM A 22 0 0 (nI (t + dd + 1))) 17 0 1 (A 17 0 1 + nI 1) k = (pSts nc (B0, pa, 0) 0).1 k := by
          intro k hk
          show _ = B0 k
          rw [hB0]
          have h17 := hA 17 (by decide)
          unfold uM
          funext i
          by_cases hh : k = 17 ∧ i = 0
          · rw [hh.1, hh.2, uS_s, uS_s, uS_n (fun z => absurd z.1 (by decide)), h17]
          · rw [uS_n hh, uS_n hh, uS_n (fun z => hk z.1), hA k hk]
        have hin := inner hlt (nm + 1) 0 _ (by omega) (by omega) eA1 (LR_day hLA (by omega) _)
        have e0 : (pSts nc (B0, pa, 0) 0).2.1 = pa ∧ (pSts nc (B0, pa, 0) 0).2.2 = 0 := ⟨rfl, rfl⟩
        rw [e0.1, e0.2, Nat.add_zero] at hin
        refine g_iload hB 6 dL_pass_6 rfl ?_
        refine g_iload_n hB 0 dL_pass_8 rfl rfl ?_
        refine n_icmp_ge hB dd d 92 dL_pass_9 (by decide) (by omega) (by omega) (fun c_9 => ?_) (fun c_9 => ?_)
        · exact absurd c_9 (by omega)
        · refine g_aload_n hB 1 dL_pass_12 rfl rfl ?_
          refine g_iconst hB (nI 1) dL_pass_13 rfl ?_
          refine g_iald hB 22 0 1 (n := 12) (by decide) rfl (by first | assumption | omega) (Nat.le_of_ble_eq_true rfl) dL_pass_14 ?_
          refine g_top (nI (pa)) (q1) ?_
          refine g_istore hB 7 dL_pass_15 (by decide) ?_
          refine g_aload_n hB 1 dL_pass_17 rfl rfl ?_
          refine g_iconst hB (nI 0) dL_pass_18 rfl ?_
          refine g_dup2 hB rfl rfl dL_pass_19 ?_
          refine g_iald hB 22 0 0 (n := 12) (by decide) rfl (by first | assumption | omega) (Nat.le_of_ble_eq_true rfl) dL_pass_20 ?_
          refine g_top (nI (t + dd)) (q0) ?_
          refine g_iconst hB (nI 1) dL_pass_21 rfl ?_
          refine g_iadd hB dL_pass_22 ?_
          refine g_top (nI (t + dd + 1)) (nI_add _ _) ?_
          refine s_iast hB 22 0 0 (n := 12) (by decide) (fun _ => rfl) (by first | assumption | omega) (Nat.le_of_ble_eq_true rfl) dL_pass_23 ?_
          refine g_iconst hB (nI 0) dL_pass_24 rfl ?_
          refine g_istore hB 8 dL_pass_25 (by decide) ?_
          refine g_gh (uM (uM A 22 0 0 (nI (t + dd + 1))) 17 0 1 (A 17 0 1 + nI 1)) (fun k h17 _ _ => funext fun i => uS_n (fun z => h17 z.1)) ?_
          exact g_sub _ rfl hin
      · have hdd : dd = d := by omega
        subst hdd
        refine g_iload hB 6 dL_pass_6 rfl ?_
        refine g_iload_n hB 0 dL_pass_8 rfl rfl ?_
        refine n_icmp_ge hB dd dd 92 dL_pass_9 (by decide) (by omega) (by omega) (fun c_9 => ?_) (fun c_9 => ?_)
        · refine g_iload hB 5 dL_pass_92 rfl ?_
          exact g_iret hB hr rfl (Nat.le_of_ble_eq_true rfl) (Nat.le_of_ble_eq_true rfl) (⟨A, rfl, rfl, hA, hLA⟩) dL_pass_94
        · exact absurd c_9 (by omega)
  refine g_iconst hB (nI 0) dL_pass_0 rfl ?_
  refine g_istore hB 5 dL_pass_1 (by decide) ?_
  refine g_iconst hB (nI 0) dL_pass_3 rfl ?_
  refine g_istore hB 6 dL_pass_4 (by decide) ?_
  exact g_sub _ rfl (loop (d + 1) 0 S (by omega) (Nat.zero_le _) (fun k _ => rfl) hL)
end L4
