/-! the reference: moving, looking -/
section M5
variable {l : Launch} {D : va_G} {ad : Nat → Nat → Nat} {ca : Nat → ClassId} {SR : List (String × Nat × String)}
theorem c_X6_isOver (S : Mem) (q h ng : Nat) (hp : PAR (S 18 2) ng) (hng : ng ≤ 10) (hh : h < ng) (hq : q < 10) : CI l yX6_isOver cX6_isOver 4 (some .boolean) { frames := 0, cells := 0, slots := 0, locals := 0 } D ad CNT ca SR (SH ad ca S) [.ref (ad 17 0), .int (nI q), .int (nI h)] (PR ad ca (bI (decide (q ∈ pth (S 18 2) h))) S) := by
  refine CI.of _ RX6 (by decide +kernel) rfl (Nat.le_of_ble_eq_true rfl) ?_
  intro p9 e9 s9 m9 a9 b9 me9 c9 A9 hB hr hnm9
  have loop : ∀ (n j : Nat), j < n → j < ng → (q ∈ pth (S 18 2) j ↔ q ∈ pth (S 18 2) h) → G p9 l e9 { frames := 0, cells := 0, slots := 0, locals := 0 } s9 m9 a9 b9 me9 c9 D ad A9 4 (MQ b9 (va_Qi (PR ad ca (bI (decide (q ∈ pth (S 18 2) h))) S) (fun E' t => WW D ad CNT A9 E' t.heap) A9) a9 s9 0 0 A9) 0 0 CNT (SH ad ca (S)) 2 [(0, .ref (ad 17 0)), (1, .int (nI q)), (3, .int (nI j))] [] := by
    intro n
    induction n with
    | zero => intro j h1 h2; omega
    | succ n ih =>
      intro j h1 h2 hj
      rcases Nat.eq_zero_or_pos j with rfl | h0
      · refine g_iload_n hB 3 dX6_isOver_2 rfl rfl ?_
        refine g_iconst hB (-1) dX6_isOver_3 rfl ?_
        refine g_icmp_eq hB 22 dX6_isOver_4 (by decide) (fun z => absurd z (m1_ne (by omega))) (fun _ => ?_)
        refine g_iload_n hB 3 dX6_isOver_7 rfl rfl ?_
        refine g_iload_n hB 1 dX6_isOver_8 rfl rfl ?_
        refine n_icmp_eq hB 0 q 22 dX6_isOver_9 (by decide) (by omega) (by omega) (fun c_9 => ?_) (fun c_9 => ?_)
        · have d_9 : decide (0 = q) = true := decide_eq_true c_9
          have e : decide (q ∈ pth (S 18 2) h) = true := decide_eq_true (hj.mp (by rw [pth_0, ← c_9]; exact List.mem_singleton.mpr rfl))
          refine g_iload_n hB 3 dX6_isOver_22 rfl rfl ?_
          refine g_iload_n hB 1 dX6_isOver_23 rfl rfl ?_
          refine n_icmp_ne hB 0 q 31 dX6_isOver_24 (by decide) (by omega) (by omega) (fun c_24 => ?_) (fun c_24 => ?_)
          · have d_24 : decide (0 = q) = false := decide_eq_false c_24
            exact absurd c_9 c_24
          · have d_24 : decide (0 = q) = true := decide_eq_true c_24
            
            refine g_iconst hB (nI 1) dX6_isOver_27 rfl ?_
            refine g_goto hB 32 dX6_isOver_28 (by decide) ?_
            exact g_iret hB hr rfl (Nat.le_of_ble_eq_true rfl) (Nat.le_of_ble_eq_true rfl) (⟨by rw [e]; rfl, rfl⟩) dX6_isOver_32
        · have d_9 : decide (0 = q) = false := decide_eq_false c_9
          have e : decide (q ∈ pth (S 18 2) h) = false := decide_eq_false (fun z => c_9 (by have := hj.mpr z; rw [pth_0] at this; exact (List.mem_singleton.mp this).symm))
          refine g_aload_n hB 0 dX6_isOver_12 rfl rfl ?_
          refine g_get (ci := 6) (T := TX6) (N := 26) hB in_X6 rfl 17 0 5 (by decide) (by decide) rfl tw_fl_X6_20 rfl dX6_isOver_13 ?_
          refine g_iload_n hB 3 dX6_isOver_16 rfl rfl ?_
          refine g_iald hB 18 2 0 (n := 10) (by decide) rfl (by first | assumption | omega) (Nat.le_of_ble_eq_true rfl) dX6_isOver_17 ?_
          refine g_top ((-1)) (hp.1) ?_
          refine g_istore_n hB 3 dX6_isOver_18 rfl (by decide) ?_
          refine g_goto hB 2 dX6_isOver_19 (by decide) ?_
          refine g_iload_n hB 3 dX6_isOver_2 rfl rfl ?_
          refine g_iconst hB (-1) dX6_isOver_3 rfl ?_
          refine g_icmp_eq hB 22 dX6_isOver_4 (by decide) (fun _ => ?_) (fun z => absurd rfl z)
          refine g_iload_n hB 3 dX6_isOver_22 rfl rfl ?_
          refine g_iload_n hB 1 dX6_isOver_23 rfl rfl ?_
          refine g_icmp_ne hB 31 dX6_isOver_24 (by decide) (fun c_24 => ?_) (fun c_24 => ?_)
          · 
            refine g_iconst hB (nI 0) dX6_isOver_31 rfl ?_
            exact g_iret hB hr rfl (Nat.le_of_ble_eq_true rfl) (Nat.le_of_ble_eq_true rfl) (⟨by rw [e]; rfl, rfl⟩) dX6_isOver_32
          · exact absurd c_24.symm (m1_ne (by omega))
      · obtain ⟨j', e1, e2⟩ := hp.2 j h0 h2
        have hs := pth_s hp hng h0 h2 e2 e1
        refine g_iload_n hB 3 dX6_isOver_2 rfl rfl ?_
        refine g_iconst hB (-1) dX6_isOver_3 rfl ?_
        refine g_icmp_eq hB 22 dX6_isOver_4 (by decide) (fun z => absurd z (m1_ne (by omega))) (fun _ => ?_)
        refine g_iload_n hB 3 dX6_isOver_7 rfl rfl ?_
        refine g_iload_n hB 1 dX6_isOver_8 rfl rfl ?_
        refine n_icmp_eq hB j q 22 dX6_isOver_9 (by decide) (by omega) (by omega) (fun c_9 => ?_) (fun c_9 => ?_)
        · have d_9 : decide (j = q) = true := decide_eq_true c_9
          have e : decide (q ∈ pth (S 18 2) h) = true := decide_eq_true (hj.mp (by rw [hs, ← c_9]; exact List.mem_cons_self))
          refine g_iload_n hB 3 dX6_isOver_22 rfl rfl ?_
          refine g_iload_n hB 1 dX6_isOver_23 rfl rfl ?_
          refine n_icmp_ne hB j q 31 dX6_isOver_24 (by decide) (by omega) (by omega) (fun c_24 => ?_) (fun c_24 => ?_)
          · have d_24 : decide (j = q) = false := decide_eq_false c_24
            exact absurd c_9 c_24
          · have d_24 : decide (j = q) = true := decide_eq_true c_24
            refine g_iconst hB (nI 1) dX6_isOver_27 rfl ?_
            refine g_goto hB 32 dX6_isOver_28 (by decide) ?_
            exact g_iret hB hr rfl (Nat.le_of_ble_eq_true rfl) (Nat.le_of_ble_eq_true rfl) (⟨by rw [e]; rfl, rfl⟩) dX6_isOver_32
        · have d_9 : decide (j = q) = false := decide_eq_false c_9
          refine g_aload_n hB 0 dX6_isOver_12 rfl rfl ?_
          refine g_get (ci := 6) (T := TX6) (N := 26) hB in_X6 rfl 17 0 5 (by decide) (by decide) rfl tw_fl_X6_20 rfl dX6_isOver_13 ?_
          refine g_iload_n hB 3 dX6_isOver_16 rfl rfl ?_
          refine g_iald hB 18 2 j (n := 10) (by decide) rfl (by first | assumption | omega) (Nat.le_of_ble_eq_true rfl) dX6_isOver_17 ?_
          refine g_top (nI (j')) (e2) ?_
          refine g_istore_n hB 3 dX6_isOver_18 rfl (by decide) ?_
          refine g_goto hB 2 dX6_isOver_19 (by decide) ?_
          exact g_sub _ rfl (ih j' (by omega) (by omega) (by rw [← hj, hs, List.mem_cons]; exact ⟨Or.inr, fun z => z.resolve_left (fun y => c_9 y.symm)⟩))
  refine g_iload_n hB 2 dX6_isOver_0 rfl rfl ?_
  refine g_istore_n hB 3 dX6_isOver_1 rfl (by decide) ?_
  exact g_sub _ rfl (loop (h + 1) h (by omega) hh Iff.rfl)
theorem c_X6_moveMachine (S : Mem) (x y : Int32) (ng nm : Nat) (hg : S 17 0 4 = nI ng) (hng : ng ≤ 10) (hm : S 17 0 6 = nI nm) (hnm : nm ≤ 12) (hp : PAR (S 18 2) ng) : CI l yX6_moveMachine cX6_moveMachine 6 (some .int) { frames := 2, cells := 0, slots := 0, locals := 43 } D ad CNT ca SR (SH ad ca S) [.ref (ad 17 0), .int (x), .int (y)] (PR ad ca (rMove (uM S 17 0 0 (nI 0)) x y ng nm).1 (rMove (uM S 17 0 0 (nI 0)) x y ng nm).2) := by
  refine CI.of _ RX6 (by decide +kernel) rfl (Nat.le_of_ble_eq_true rfl) ?_
  intro p9 e9 s9 m9 a9 b9 me9 c9 A9 hB hr hnm9
  have outer : ∀ (m g : Nat) (r : Int32), m < nm → g < ng → rMove (uM S 17 0 0 (nI 0)) (nI m) (nI g) ng nm = (r, uS (uM (uM S 17 0 0 (nI 0)) 18 3 m (nI g)) 18 5 (mvV (uM S 17 0 0 (nI 0)) m g ng)) → ∀ (n q : Nat), ng - q < n → q ≤ ng → G p9 l e9 { frames := 2, cells := 0, slots := 0, locals := 43 } s9 m9 a9 b9 me9 c9 D ad A9 6 (MQ b9 (va_Qi (PR ad ca (rMove (uM S 17 0 0 (nI 0)) (nI m) (nI g) ng nm).1 (rMove (uM S 17 0 0 (nI 0)) (nI m) (nI g) ng nm).2) (fun E' t => WW D ad CNT A9 E' t.heap) A9) a9 s9 0 0 A9) 0 0 CNT (SH ad ca (uS (uM (uM S 17 0 0 (nI 0)) 18 3 m (nI g)) 18 5 (mvV (uM S 17 0 0 (nI 0)) m g q))) 58 [(0, .ref (ad 17 0)), (1, .int (nI m)), (2, .int (nI g)), (3, .int (r)), (4, .int (nI q))] [] := by
    intro m g r hm1 hg1 hsp n
    induction n with
    | zero => intro q h1 h2; omega
    | succ n ih =>
      intro q h1 h2
      have inner : q < ng → q ∉ pth (S 18 2) g → ∀ (n' k : Nat), 6 - k < n' → k ≤ 6 → G p9 l e9 { frames := 2, cells := 0, slots := 0, locals := 43 } s9 m9 a9 b9 me9 c9 D ad A9 6 (MQ b9 (va_Qi (PR ad ca (rMove (uM S 17 0 0 (nI 0)) (nI m) (nI g) ng nm).1 (rMove (uM S 17 0 0 (nI 0)) (nI m) (nI g) ng nm).2) (fun E' t => WW D ad CNT A9 E' t.heap) A9) a9 s9 0 0 A9) 0 0 CNT (SH ad ca (uS (uM (uM S 17 0 0 (nI 0)) 18 3 m (nI g)) 18 5 (ovl (mvV (uM S 17 0 0 (nI 0)) m g q) (66 * m + 6 * q) k (fun _ => -1)))) 70 [(0, .ref (ad 17 0)), (1, .int (nI m)), (2, .int (nI g)), (3, .int (r)), (4, .int (nI q)), (5, .int (nI k))] [] := by
        intro hq hnot n'
        have ed : decide (q ∈ pth (S 18 2) g) = false := decide_eq_false hnot
        induction n' with
        | zero => intro k h3 h4; omega
        | succ n' ih2 =>
          intro k h3 h4
          refine g_iload hB 5 dX6_moveMachine_70 rfl ?_
          refine g_bipush hB (nI 6) dX6_moveMachine_72 rfl ?_
          refine n_icmp_ge hB k 6 109 dX6_moveMachine_74 (by decide) (by omega) (by omega) (fun c_74 => ?_) (fun c_74 => ?_)
          · have hk : k = 6 := by omega
            subst hk
            refine s_eq _ (congrArg (uS _ 18 5) (mvV_out (S := uM S 17 0 0 (nI 0)) hnot)) ?_
            refine g_iinc hB (nI (q + 1)) dX6_moveMachine_109 rfl (nI_1 _) (by decide) ?_
            refine g_goto hB 58 dX6_moveMachine_112 (by decide) ?_
            exact g_sub _ rfl (ih (q + 1) (by omega) (by omega))
          · refine g_aload_n hB 0 dX6_moveMachine_77 rfl rfl ?_
            refine g_iload hB 4 dX6_moveMachine_78 rfl ?_
            refine g_iload_n hB 2 dX6_moveMachine_80 rfl rfl ?_
            refine g_callVI hB (c_X6_isOver _ q g ng hp hng hg1 (by omega)) k_X6_148 rfl yk_X6_isOver ⟨Nat.le_of_ble_eq_true rfl, Nat.le_of_ble_eq_true rfl⟩ ⟨(by decide), _, _, _, rfl, rfl, rfl⟩ rfl (Nat.le_of_ble_eq_true rfl) ⟨Nat.le_of_ble_eq_true rfl, Nat.le_of_ble_eq_true rfl⟩ dX6_moveMachine_81 ?_
            rintro _ _ ⟨rfl, rfl⟩
            refine b_if_ne hB (decide (q ∈ pth (S 18 2) g)) 109 dX6_moveMachine_84 (by decide) (fun c_84 => ?_) (fun c_84 => ?_)
            · rw [ed] at c_84; cases c_84
            · refine g_aload_n hB 0 dX6_moveMachine_87 rfl rfl ?_
              refine g_get (ci := 6) (T := TX6) (N := 26) hB in_X6 rfl 17 0 10 (by decide) (by decide) rfl tw_fl_X6_32 rfl dX6_moveMachine_88 ?_
              refine g_aload_n hB 0 dX6_moveMachine_91 rfl rfl ?_
              refine g_iload_n hB 1 dX6_moveMachine_92 rfl rfl ?_
              refine g_iload hB 4 dX6_moveMachine_93 rfl ?_
              refine g_callVI hB (c_X6_cells _ _ _) k_X6_102 rfl yk_X6_cells ⟨Nat.le_of_ble_eq_true rfl, Nat.le_of_ble_eq_true rfl⟩ ⟨(by decide), _, _, _, rfl, rfl, rfl⟩ rfl (Nat.le_of_ble_eq_true rfl) ⟨Nat.le_of_ble_eq_true rfl, Nat.le_of_ble_eq_true rfl⟩ dX6_moveMachine_95 ?_
              rintro _ _ ⟨rfl, rfl⟩
              refine g_iload hB 5 dX6_moveMachine_98 rfl ?_
              refine g_iadd hB dX6_moveMachine_100 ?_
              refine g_top (nI (66 * m + 6 * q + k)) (by rw [nI_add]; congr 1; omega) ?_
              refine g_iconst hB (-1) dX6_moveMachine_101 rfl ?_
              refine s_iast hB 18 5 (66 * m + 6 * q + k) (n := 792) (by decide) (fun _ => rfl) (by first | assumption | omega) (Nat.le_of_ble_eq_true rfl) dX6_moveMachine_102 ?_
              refine g_iinc hB (nI (k + 1)) dX6_moveMachine_103 rfl (nI_1 _) (by decide) ?_
              refine g_goto hB 70 dX6_moveMachine_106 (by decide) ?_
              refine s_eq _ ?_ (g_sub _ rfl (ih2 (k + 1) (by omega) (by omega)))
              rw [uM_uS]
              exact congrArg (uS _ 18 5) ovl_s
      refine g_iload hB 4 dX6_moveMachine_58 rfl ?_
      refine g_aload_n hB 0 dX6_moveMachine_60 rfl rfl ?_
      refine g_get (ci := 6) (T := TX6) (N := 26) hB in_X6 rfl 17 0 4 (by decide) (by decide) rfl tw_fl_X6_16 rfl dX6_moveMachine_61 ?_
      refine g_top (nI ng) (hg) ?_
      refine n_icmp_ge hB q ng 115 dX6_moveMachine_64 (by decide) (by omega) (by omega) (fun c_64 => ?_) (fun c_64 => ?_)
      · have hk : q = ng := by omega
        subst hk
        refine g_iload_n hB 3 dX6_moveMachine_115 rfl rfl ?_
        exact g_iret hB hr rfl (Nat.le_of_ble_eq_true rfl) (Nat.le_of_ble_eq_true rfl) (⟨by rw [hsp], by rw [hsp]⟩) dX6_moveMachine_116
      · refine g_iconst hB (nI 0) dX6_moveMachine_67 rfl ?_
        refine g_istore hB 5 dX6_moveMachine_68 (by decide) ?_
        by_cases hin : q ∈ pth (S 18 2) g
        · have ed : decide (q ∈ pth (S 18 2) g) = true := decide_eq_true hin
          refine g_iload hB 5 dX6_moveMachine_70 rfl ?_
          refine g_bipush hB (nI 6) dX6_moveMachine_72 rfl ?_
          refine n_icmp_ge hB 0 6 109 dX6_moveMachine_74 (by decide) (by omega) (by omega) (fun c_74 => ?_) (fun c_74 => ?_)
          · exact absurd c_74 (by omega)
          · refine g_aload_n hB 0 dX6_moveMachine_77 rfl rfl ?_
            refine g_iload hB 4 dX6_moveMachine_78 rfl ?_
            refine g_iload_n hB 2 dX6_moveMachine_80 rfl rfl ?_
            refine g_callVI hB (c_X6_isOver _ q g ng hp hng hg1 (by omega)) k_X6_148 rfl yk_X6_isOver ⟨Nat.le_of_ble_eq_true rfl, Nat.le_of_ble_eq_true rfl⟩ ⟨(by decide), _, _, _, rfl, rfl, rfl⟩ rfl (Nat.le_of_ble_eq_true rfl) ⟨Nat.le_of_ble_eq_true rfl, Nat.le_of_ble_eq_true rfl⟩ dX6_moveMachine_81 ?_
            rintro _ _ ⟨rfl, rfl⟩
            refine b_if_ne hB (decide (q ∈ pth (S 18 2) g)) 109 dX6_moveMachine_84 (by decide) (fun c_84 => ?_) (fun c_84 => ?_)
            · refine g_iinc hB (nI (q + 1)) dX6_moveMachine_109 rfl (nI_1 _) (by decide) ?_
              refine g_goto hB 58 dX6_moveMachine_112 (by decide) ?_
              refine s_eq _ ?_ (g_sub _ rfl (ih (q + 1) (by omega) (by omega)))
              exact congrArg (uS _ 18 5) (mvV_in (S := uM S 17 0 0 (nI 0)) hin).symm
            · rw [ed] at c_84; cases c_84
        · exact s_eq _ (congrArg (uS _ 18 5) ovl_0.symm) (g_sub _ rfl (inner (by omega) hin 7 0 (by omega) (by omega)))
  refine g_aload_n hB 0 dX6_moveMachine_0 rfl rfl ?_
  refine g_iconst hB (nI 0) dX6_moveMachine_1 rfl ?_
  refine s_put (ci := 6) (T := TX6) (N := 26) hB in_X6 rfl tyX6 tyX6_ok nmX6 17 0 0 (by decide) (by decide) rfl rfl tw_fl_X6_74 rfl rfl rfl (Nat.le_of_ble_eq_true rfl) dX6_moveMachine_2 ?_
  refine g_aload_n hB 0 dX6_moveMachine_5 rfl rfl ?_
  refine g_iload_n hB 1 dX6_moveMachine_6 rfl rfl ?_
  refine g_callVI hB (c_X6_isMachine _ _ nm hm hnm) k_X6_145 rfl yk_X6_isMachine ⟨Nat.le_of_ble_eq_true rfl, Nat.le_of_ble_eq_true rfl⟩ ⟨(by decide), _, _, _, rfl, rfl, rfl⟩ rfl (Nat.le_of_ble_eq_true rfl) ⟨Nat.le_of_ble_eq_true rfl, Nat.le_of_ble_eq_true rfl⟩ dX6_moveMachine_7 ?_
  rintro _ _ ⟨rfl, rfl⟩
  refine b_if_eq hB (rgB x nm) 21 dX6_moveMachine_10 (by decide) (fun c_10 => ?_) (fun c_10 => ?_)
  · refine g_aload_n hB 0 dX6_moveMachine_21 rfl rfl ?_
    refine g_iconst hB (nI 1) dX6_moveMachine_22 rfl ?_
    refine g_callVI hB (c_X6_fails _ _) k_X6_112 rfl yk_X6_fails ⟨Nat.le_of_ble_eq_true rfl, Nat.le_of_ble_eq_true rfl⟩ ⟨(by decide), _, _, _, rfl, rfl, rfl⟩ rfl (Nat.le_of_ble_eq_true rfl) ⟨Nat.le_of_ble_eq_true rfl, Nat.le_of_ble_eq_true rfl⟩ dX6_moveMachine_23 ?_
    rintro _ _ ⟨rfl, rfl⟩
    exact g_iret hB hr rfl (Nat.le_of_ble_eq_true rfl) (Nat.le_of_ble_eq_true rfl) (⟨by simp only [rMove, fl, c_10, decide_true, decide_false, not_true_eq_false, not_false_eq_true, Bool.or_true, Bool.true_or, Bool.or_false, Bool.false_or, cond_true, cond_false], by simp only [rMove, fl, c_10, decide_true, decide_false, not_true_eq_false, not_false_eq_true, Bool.or_true, Bool.true_or, Bool.or_false, Bool.false_or, cond_true, cond_false]⟩) dX6_moveMachine_26
  · refine g_aload_n hB 0 dX6_moveMachine_13 rfl rfl ?_
    refine g_iload_n hB 2 dX6_moveMachine_14 rfl rfl ?_
    refine g_callVI hB (c_X6_isGroup _ _ ng hg hng) k_X6_87 rfl yk_X6_isGroup ⟨Nat.le_of_ble_eq_true rfl, Nat.le_of_ble_eq_true rfl⟩ ⟨(by decide), _, _, _, rfl, rfl, rfl⟩ rfl (Nat.le_of_ble_eq_true rfl) ⟨Nat.le_of_ble_eq_true rfl, Nat.le_of_ble_eq_true rfl⟩ dX6_moveMachine_15 ?_
    rintro _ _ ⟨rfl, rfl⟩
    refine b_if_ne hB (rgB y ng) 27 dX6_moveMachine_18 (by decide) (fun c_18 => ?_) (fun c_18 => ?_)
    · obtain ⟨i, hi, rfl⟩ := rgB_t c_10
      have ii := ix_nI (show i < 2 ^ 31 by omega)
      obtain ⟨j, hj, rfl⟩ := rgB_t c_18
      have ij := ix_nI (show j < 2 ^ 31 by omega)
      refine g_aload_n hB 0 dX6_moveMachine_27 rfl rfl ?_
      refine g_iload_n hB 1 dX6_moveMachine_28 rfl rfl ?_
      refine g_callVI hB (c_X6_works _ i (by omega)) k_X6_135 rfl yk_X6_works ⟨Nat.le_of_ble_eq_true rfl, Nat.le_of_ble_eq_true rfl⟩ ⟨(by decide), _, _, _, rfl, rfl, rfl⟩ rfl (Nat.le_of_ble_eq_true rfl) ⟨Nat.le_of_ble_eq_true rfl, Nat.le_of_ble_eq_true rfl⟩ dX6_moveMachine_29 ?_
      rintro _ _ ⟨rfl, rfl⟩
      refine b_if_eq hB (decide ((uM S 17 0 0 (nI 0)) 17 0 1 < (uM S 17 0 0 (nI 0)) 18 4 i)) 41 dX6_moveMachine_32 (by decide) (fun c_32 => ?_) (fun c_32 => ?_)
      · refine g_aload_n hB 0 dX6_moveMachine_41 rfl rfl ?_
        refine g_get (ci := 6) (T := TX6) (N := 26) hB in_X6 rfl 17 0 8 (by decide) (by decide) rfl tw_fl_X6_26 rfl dX6_moveMachine_42 ?_
        refine g_iload_n hB 1 dX6_moveMachine_45 rfl rfl ?_
        refine g_iald hB 18 3 i (n := 12) (by decide) rfl (by first | assumption | omega) (Nat.le_of_ble_eq_true rfl) dX6_moveMachine_46 ?_
        refine g_istore_n hB 3 dX6_moveMachine_47 rfl (by decide) ?_
        refine g_aload_n hB 0 dX6_moveMachine_48 rfl rfl ?_
        refine g_get (ci := 6) (T := TX6) (N := 26) hB in_X6 rfl 17 0 8 (by decide) (by decide) rfl tw_fl_X6_26 rfl dX6_moveMachine_49 ?_
        refine g_iload_n hB 1 dX6_moveMachine_52 rfl rfl ?_
        refine g_iload_n hB 2 dX6_moveMachine_53 rfl rfl ?_
        refine s_iast hB 18 3 i (n := 12) (by decide) (fun _ => rfl) (by first | assumption | omega) (Nat.le_of_ble_eq_true rfl) dX6_moveMachine_54 ?_
        refine g_iconst hB (nI 0) dX6_moveMachine_55 rfl ?_
        refine g_istore hB 4 dX6_moveMachine_56 (by decide) ?_
        exact s_eq _ (by rw [mvV_0]; exact uS_self.symm) (g_sub _ rfl (outer i j _ hi hj (by simp only [rMove, c_10, c_18, c_32, ii, ij, cond_true, cond_false]) (ng + 1) 0 (by omega) (by omega)))
      · refine g_aload_n hB 0 dX6_moveMachine_35 rfl rfl ?_
        refine g_iconst hB (nI 2) dX6_moveMachine_36 rfl ?_
        refine g_callVI hB (c_X6_fails _ _) k_X6_112 rfl yk_X6_fails ⟨Nat.le_of_ble_eq_true rfl, Nat.le_of_ble_eq_true rfl⟩ ⟨(by decide), _, _, _, rfl, rfl, rfl⟩ rfl (Nat.le_of_ble_eq_true rfl) ⟨Nat.le_of_ble_eq_true rfl, Nat.le_of_ble_eq_true rfl⟩ dX6_moveMachine_37 ?_
        rintro _ _ ⟨rfl, rfl⟩
        exact g_iret hB hr rfl (Nat.le_of_ble_eq_true rfl) (Nat.le_of_ble_eq_true rfl) (⟨by simp only [rMove, fl, c_10, c_18, c_32, ii, decide_true, decide_false, not_true_eq_false, not_false_eq_true, Bool.or_true, Bool.true_or, Bool.or_false, Bool.false_or, cond_true, cond_false], by simp only [rMove, fl, c_10, c_18, c_32, ii, decide_true, decide_false, not_true_eq_false, not_false_eq_true, Bool.or_true, Bool.true_or, Bool.or_false, Bool.false_or, cond_true, cond_false]⟩) dX6_moveMachine_40
    · refine g_aload_n hB 0 dX6_moveMachine_21 rfl rfl ?_
      refine g_iconst hB (nI 1) dX6_moveMachine_22 rfl ?_
      refine g_callVI hB (c_X6_fails _ _) k_X6_112 rfl yk_X6_fails ⟨Nat.le_of_ble_eq_true rfl, Nat.le_of_ble_eq_true rfl⟩ ⟨(by decide), _, _, _, rfl, rfl, rfl⟩ rfl (Nat.le_of_ble_eq_true rfl) ⟨Nat.le_of_ble_eq_true rfl, Nat.le_of_ble_eq_true rfl⟩ dX6_moveMachine_23 ?_
      rintro _ _ ⟨rfl, rfl⟩
      exact g_iret hB hr rfl (Nat.le_of_ble_eq_true rfl) (Nat.le_of_ble_eq_true rfl) (⟨by simp only [rMove, fl, c_10, c_18, decide_true, decide_false, not_true_eq_false, not_false_eq_true, Bool.or_true, Bool.true_or, Bool.or_false, Bool.false_or, cond_true, cond_false], by simp only [rMove, fl, c_10, c_18, decide_true, decide_false, not_true_eq_false, not_false_eq_true, Bool.or_true, Bool.true_or, Bool.or_false, Bool.false_or, cond_true, cond_false]⟩) dX6_moveMachine_26
end M5
