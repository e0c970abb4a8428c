/-! the reference: what is looked up -/
section M2
variable {l : Launch} {D : va_G} {ad : Nat → Nat → Nat} {ca : Nat → ClassId} {SR : List (String × Nat × String)}
theorem c_X6_works (S : Mem) (m : Nat) (hm : m < 12) : CI l yX6_works cX6_works 2 (some .boolean) { frames := 0, cells := 0, slots := 0, locals := 0 } D ad CNT ca SR (SH ad ca S) [.ref (ad 17 0), .int (nI m)] (PR ad ca (bI (decide (S 17 0 1 < S 18 4 m))) S) := by
  refine CI.of _ RX6 (by decide +kernel) rfl (Nat.le_of_ble_eq_true rfl) ?_
  intro p9 e9 s9 m9 a9 b9 me9 c9 A9 hB hr hnm9
  refine g_aload_n hB 0 dX6_works_0 rfl rfl ?_
  refine g_get (ci := 6) (T := TX6) (N := 26) hB in_X6 rfl 17 0 1 (by decide) (by decide) rfl tw_fl_X6_109 rfl dX6_works_1 ?_
  refine g_aload_n hB 0 dX6_works_4 rfl rfl ?_
  refine g_get (ci := 6) (T := TX6) (N := 26) hB in_X6 rfl 17 0 9 (by decide) (by decide) rfl tw_fl_X6_29 rfl dX6_works_5 ?_
  refine g_iload_n hB 1 dX6_works_8 rfl rfl ?_
  refine g_iald hB 18 4 m (n := 12) (by decide) rfl (by first | assumption | omega) (Nat.le_of_ble_eq_true rfl) dX6_works_9 ?_
  refine g_icmp_ge hB 17 dX6_works_10 (by decide) (fun c_10 => ?_) (fun c_10 => ?_)
  · have e := Int32.not_lt.mpr c_10
    refine g_iconst hB (nI 0) dX6_works_17 rfl ?_
    exact g_iret hB hr rfl (Nat.le_of_ble_eq_true rfl) (Nat.le_of_ble_eq_true rfl) (⟨by simp [e, bI], rfl⟩) dX6_works_18
  · have e := Int32.not_le.mp c_10
    refine g_iconst hB (nI 1) dX6_works_13 rfl ?_
    refine g_goto hB 18 dX6_works_14 (by decide) ?_
    exact g_iret hB hr rfl (Nat.le_of_ble_eq_true rfl) (Nat.le_of_ble_eq_true rfl) (⟨by simp [e, bI], rfl⟩) dX6_works_18
theorem c_X6_isPlace (S : Mem) (x : Int32) (ng nm : Nat) (h : S 17 0 4 = nI ng) (hn : ng ≤ 10) (hm : S 17 0 6 = nI nm) (hnm : nm ≤ 12) : CI l yX6_isPlace cX6_isPlace 2 (some .boolean) { frames := 2, cells := 0, slots := 0, locals := 43 } D ad CNT ca SR (SH ad ca S) [.ref (ad 17 0), .int (x)] (PR ad ca (bI (rgB x ng || decide (100 ≤ x.toInt ∧ x.toInt < 100 + nm))) S) := by
  have hE9 : inR x (nI 100) (nI (99 + nm)) = decide (100 ≤ x.toInt ∧ x.toInt < 100 + nm) := by
    rw [inR_n _ _ (by omega) (by omega), Bool.eq_iff_iff]
    simp only [decide_eq_true_eq]
    omega
  refine CI.of _ RX6 (by decide +kernel) rfl (Nat.le_of_ble_eq_true rfl) ?_
  intro p9 e9 s9 m9 a9 b9 me9 c9 A9 hB hr hnm9
  refine g_aload_n hB 0 dX6_isPlace_0 rfl rfl ?_
  refine g_iload_n hB 1 dX6_isPlace_1 rfl rfl ?_
  refine g_callVI hB (c_X6_isGroup S _ ng h hn) k_X6_87 rfl yk_X6_isGroup ⟨Nat.le_of_ble_eq_true rfl, Nat.le_of_ble_eq_true rfl⟩ ⟨(by decide), _, _, _, rfl, rfl, rfl⟩ rfl (Nat.le_of_ble_eq_true rfl) ⟨Nat.le_of_ble_eq_true rfl, Nat.le_of_ble_eq_true rfl⟩ dX6_isPlace_2 ?_
  rintro _ _ ⟨rfl, rfl⟩
  refine b_if_ne hB (rgB x ng) 24 dX6_isPlace_5 (by decide) (fun c_5 => ?_) (fun c_5 => ?_)
  · refine g_iconst hB (nI 1) dX6_isPlace_24 rfl ?_
    refine g_goto hB 29 dX6_isPlace_25 (by decide) ?_
    exact g_iret hB hr rfl (Nat.le_of_ble_eq_true rfl) (Nat.le_of_ble_eq_true rfl) (⟨by first | (rw [c_5]; rfl) | (rw [c_5, ← hE9, c_21]; rfl), rfl⟩) dX6_isPlace_29
  · refine g_iload_n hB 1 dX6_isPlace_8 rfl rfl ?_
    refine g_bipush hB (nI 100) dX6_isPlace_9 rfl ?_
    refine g_bipush hB (nI 99) dX6_isPlace_11 rfl ?_
    refine g_aload_n hB 0 dX6_isPlace_13 rfl rfl ?_
    refine g_get (ci := 6) (T := TX6) (N := 26) hB in_X6 rfl 17 0 6 (by decide) (by decide) rfl tw_fl_X6_81 rfl dX6_isPlace_14 ?_
    refine g_top (nI nm) (hm) ?_
    refine g_iadd hB dX6_isPlace_17 ?_
    refine g_top (nI (99 + nm)) (nI_add _ _) ?_
    refine g_callSI hB (c_X6_in S _ _ _) k_X6_77 yk_X6_in ⟨Nat.le_of_ble_eq_true rfl, Nat.le_of_ble_eq_true rfl⟩ rfl (Nat.le_of_ble_eq_true rfl) ⟨Nat.le_of_ble_eq_true rfl, Nat.le_of_ble_eq_true rfl⟩ dX6_isPlace_18 ?_
    rintro _ _ ⟨rfl, rfl⟩
    refine b_if_eq hB (inR x (nI 100) (nI (99 + nm))) 28 dX6_isPlace_21 (by decide) (fun c_21 => ?_) (fun c_21 => ?_)
    · refine g_iconst hB (nI 0) dX6_isPlace_28 rfl ?_
      exact g_iret hB hr rfl (Nat.le_of_ble_eq_true rfl) (Nat.le_of_ble_eq_true rfl) (⟨by first | (rw [c_5]; rfl) | (rw [c_5, ← hE9, c_21]; rfl), rfl⟩) dX6_isPlace_29
    · refine g_iconst hB (nI 1) dX6_isPlace_24 rfl ?_
      refine g_goto hB 29 dX6_isPlace_25 (by decide) ?_
      exact g_iret hB hr rfl (Nat.le_of_ble_eq_true rfl) (Nat.le_of_ble_eq_true rfl) (⟨by first | (rw [c_5]; rfl) | (rw [c_5, ← hE9, c_21]; rfl), rfl⟩) dX6_isPlace_29
theorem c_X6_top (S : Mem) (pl k : Int32) (nc : Nat) (h : S 17 0 11 = nI nc) (hn : nc ≤ 40) : CI l yX6_top cX6_top 6 (some .int) { frames := 0, cells := 0, slots := 0, locals := 0 } D ad CNT ca SR (SH ad ca S) [.ref (ad 17 0), .int (pl), .int (k)] (PR ad ca (oI (mTopI S nc pl k)) S) := by
  refine CI.of _ RX6 (by decide +kernel) rfl (Nat.le_of_ble_eq_true rfl) ?_
  intro p9 e9 s9 m9 a9 b9 me9 c9 A9 hB hr hnm9
  have loop : ∀ (n c : Nat) (x : Int32), nc - c < n → c ≤ nc → x = oI (bestN (mOkI S pl k) (S 18 12) c) → G p9 l e9 { frames := 0, cells := 0, slots := 0, locals := 0 } s9 m9 a9 b9 me9 c9 D ad A9 6 (MQ b9 (va_Qi (PR ad ca (oI (mTopI S nc pl k)) S) (fun E' t => WW D ad CNT A9 E' t.heap) A9) a9 s9 0 0 A9) 0 0 CNT (SH ad ca (S)) 5 [(0, .ref (ad 17 0)), (1, .int (pl)), (2, .int (k)), (3, .int (x)), (4, .int (nI c))] [] := by
    intro n
    induction n with
    | zero => intro c x h1 h2; omega
    | succ n ih =>
      intro c x h1 h2 hx
      obtain ⟨b, hb⟩ : ∃ b, b = bestN (mOkI S pl k) (S 18 12) c := ⟨_, rfl⟩
      rw [← hb] at hx
      subst hx
      have hnext : ∀ x', x' = oI (bstep (mOkI S pl k) (S 18 12) c b) → c < nc → G p9 l e9 { frames := 0, cells := 0, slots := 0, locals := 0 } s9 m9 a9 b9 me9 c9 D ad A9 6 (MQ b9 (va_Qi (PR ad ca (oI (mTopI S nc pl k)) S) (fun E' t => WW D ad CNT A9 E' t.heap) A9) a9 s9 0 0 A9) 0 0 CNT (SH ad ca (S)) 5 [(0, .ref (ad 17 0)), (1, .int (pl)), (2, .int (k)), (3, .int (x')), (4, .int (nI (c + 1)))] [] := fun x' hb' hc' => ih (c + 1) x' (by omega) (by omega) (by rw [hb', hb]; rfl)
      refine g_iload hB 4 dX6_top_5 rfl ?_
      refine g_aload_n hB 0 dX6_top_7 rfl rfl ?_
      refine g_get (ci := 6) (T := TX6) (N := 26) hB in_X6 rfl 17 0 11 (by decide) (by decide) rfl tw_fl_X6_84 rfl dX6_top_8 ?_
      refine g_top (nI nc) (h) ?_
      refine n_icmp_ge hB c nc 93 dX6_top_11 (by decide) (by omega) (by omega) (fun c_11 => ?_) (fun c_11 => ?_)
      · have hk : c = nc := by omega
        subst hk
        refine g_iload_n hB 3 dX6_top_93 rfl rfl ?_
        exact g_iret hB hr rfl (Nat.le_of_ble_eq_true rfl) (Nat.le_of_ble_eq_true rfl) (⟨by rw [hb]; rfl, rfl⟩) dX6_top_94
      · refine g_aload_n hB 0 dX6_top_14 rfl rfl ?_
        refine g_get (ci := 6) (T := TX6) (N := 26) hB in_X6 rfl 17 0 18 (by decide) (by decide) rfl tw_fl_X6_50 rfl dX6_top_15 ?_
        refine g_iload hB 4 dX6_top_18 rfl ?_
        refine g_iald hB 18 11 c (n := 40) (by decide) rfl (by first | assumption | omega) (Nat.le_of_ble_eq_true rfl) dX6_top_20 ?_
        refine g_iconst hB (nI 1) dX6_top_21 rfl ?_
        refine g_icmp_ne hB 51 dX6_top_22 (by decide) (fun c_22 => ?_) (fun c_22 => ?_)
        · have hok : mOkI S pl k c = false := by simp [mOkI, c_22]
          refine g_iconst hB (nI 0) dX6_top_51 rfl ?_
          refine g_istore hB 5 dX6_top_52 (by decide) ?_
          refine g_iload hB 5 dX6_top_54 rfl ?_
          refine g_if_eq hB 85 dX6_top_56 (by decide) (fun _ => ?_) (fun z => absurd rfl z)
          refine g_iload_n hB 3 dX6_top_85 rfl rfl ?_
          refine g_istore_n hB 3 dX6_top_86 rfl (by decide) ?_
          refine g_iinc hB (nI (c + 1)) dX6_top_87 rfl (nI_1 _) (by decide) ?_
          refine g_goto hB 5 dX6_top_90 (by decide) ?_
          refine g_sub _ rfl (hnext _ ?_ (by omega))
          first | (unfold bstep; rw [hok]; rfl) | (unfold bstep; rw [hok, hbn]; rfl) | (unfold bstep; rw [hok]; simp only [hle]; rfl)
        · refine g_aload_n hB 0 dX6_top_25 rfl rfl ?_
          refine g_get (ci := 6) (T := TX6) (N := 26) hB in_X6 rfl 17 0 14 (by decide) (by decide) rfl tw_fl_X6_38 rfl dX6_top_26 ?_
          refine g_iload hB 4 dX6_top_29 rfl ?_
          refine g_iald hB 18 7 c (n := 40) (by decide) rfl (by first | assumption | omega) (Nat.le_of_ble_eq_true rfl) dX6_top_31 ?_
          refine g_iload_n hB 1 dX6_top_32 rfl rfl ?_
          refine g_icmp_ne hB 51 dX6_top_33 (by decide) (fun c_33 => ?_) (fun c_33 => ?_)
          · have hok : mOkI S pl k c = false := by simp [mOkI, c_33]
            refine g_iconst hB (nI 0) dX6_top_51 rfl ?_
            refine g_istore hB 5 dX6_top_52 (by decide) ?_
            refine g_iload hB 5 dX6_top_54 rfl ?_
            refine g_if_eq hB 85 dX6_top_56 (by decide) (fun _ => ?_) (fun z => absurd rfl z)
            refine g_iload_n hB 3 dX6_top_85 rfl rfl ?_
            refine g_istore_n hB 3 dX6_top_86 rfl (by decide) ?_
            refine g_iinc hB (nI (c + 1)) dX6_top_87 rfl (nI_1 _) (by decide) ?_
            refine g_goto hB 5 dX6_top_90 (by decide) ?_
            refine g_sub _ rfl (hnext _ ?_ (by omega))
            first | (unfold bstep; rw [hok]; rfl) | (unfold bstep; rw [hok, hbn]; rfl) | (unfold bstep; rw [hok]; simp only [hle]; rfl)
          · refine g_aload_n hB 0 dX6_top_36 rfl rfl ?_
            refine g_get (ci := 6) (T := TX6) (N := 26) hB in_X6 rfl 17 0 15 (by decide) (by decide) rfl tw_fl_X6_41 rfl dX6_top_37 ?_
            refine g_iload hB 4 dX6_top_40 rfl ?_
            refine g_iald hB 18 8 c (n := 40) (by decide) rfl (by first | assumption | omega) (Nat.le_of_ble_eq_true rfl) dX6_top_42 ?_
            refine g_iload_n hB 2 dX6_top_43 rfl rfl ?_
            refine g_icmp_ne hB 51 dX6_top_44 (by decide) (fun c_44 => ?_) (fun c_44 => ?_)
            · have hok : mOkI S pl k c = false := by simp [mOkI, c_44]
              refine g_iconst hB (nI 0) dX6_top_51 rfl ?_
              refine g_istore hB 5 dX6_top_52 (by decide) ?_
              refine g_iload hB 5 dX6_top_54 rfl ?_
              refine g_if_eq hB 85 dX6_top_56 (by decide) (fun _ => ?_) (fun z => absurd rfl z)
              refine g_iload_n hB 3 dX6_top_85 rfl rfl ?_
              refine g_istore_n hB 3 dX6_top_86 rfl (by decide) ?_
              refine g_iinc hB (nI (c + 1)) dX6_top_87 rfl (nI_1 _) (by decide) ?_
              refine g_goto hB 5 dX6_top_90 (by decide) ?_
              refine g_sub _ rfl (hnext _ ?_ (by omega))
              first | (unfold bstep; rw [hok]; rfl) | (unfold bstep; rw [hok, hbn]; rfl) | (unfold bstep; rw [hok]; simp only [hle]; rfl)
            · have hok : mOkI S pl k c = true := by simp [mOkI, c_22, c_33, c_44]
              refine g_iconst hB (nI 1) dX6_top_47 rfl ?_
              refine g_goto hB 52 dX6_top_48 (by decide) ?_
              refine g_istore hB 5 dX6_top_52 (by decide) ?_
              refine g_iload hB 5 dX6_top_54 rfl ?_
              refine g_if_eq hB 85 dX6_top_56 (by decide) (fun z => absurd z (by decide)) (fun _ => ?_)
              refine g_iload_n hB 3 dX6_top_59 rfl rfl ?_
              refine g_iconst hB (-1) dX6_top_60 rfl ?_
              refine g_icmp_eq hB 80 dX6_top_61 (by decide) (fun c_61 => ?_) (fun c_61 => ?_)
              · have hbn : b = none := (oI_m1 (fun c hc => by have := (bestN_lt (hb.symm.trans hc)).1; omega)).mp c_61
                refine g_iload hB 4 dX6_top_80 rfl ?_
                refine g_goto hB 86 dX6_top_82 (by decide) ?_
                refine g_istore_n hB 3 dX6_top_86 rfl (by decide) ?_
                refine g_iinc hB (nI (c + 1)) dX6_top_87 rfl (nI_1 _) (by decide) ?_
                refine g_goto hB 5 dX6_top_90 (by decide) ?_
                refine g_sub _ rfl (hnext _ ?_ (by omega))
                first | (unfold bstep; rw [hok]; rfl) | (unfold bstep; rw [hok, hbn]; rfl) | (unfold bstep; rw [hok]; simp only [hle]; rfl)
              · obtain ⟨d, rfl⟩ : ∃ d, b = some d := by
                  cases b with
                  | none => exact absurd rfl c_61
                  | some d => exact ⟨d, rfl⟩
                have hd := (bestN_lt hb.symm).1
                refine g_aload_n hB 0 dX6_top_64 rfl rfl ?_
                refine g_get (ci := 6) (T := TX6) (N := 26) hB in_X6 rfl 17 0 19 (by decide) (by decide) rfl tw_fl_X6_53 rfl dX6_top_65 ?_
                refine g_iload hB 4 dX6_top_68 rfl ?_
                refine g_iald hB 18 12 c (n := 40) (by decide) rfl (by first | assumption | omega) (Nat.le_of_ble_eq_true rfl) dX6_top_70 ?_
                refine g_aload_n hB 0 dX6_top_71 rfl rfl ?_
                refine g_get (ci := 6) (T := TX6) (N := 26) hB in_X6 rfl 17 0 19 (by decide) (by decide) rfl tw_fl_X6_53 rfl dX6_top_72 ?_
                refine g_iload_n hB 3 dX6_top_75 rfl rfl ?_
                refine g_top ((nI d)) (rfl) ?_
                refine g_iald hB 18 12 d (n := 40) (by decide) rfl (by first | assumption | omega) (Nat.le_of_ble_eq_true rfl) dX6_top_76 ?_
                refine g_icmp_le hB 85 dX6_top_77 (by decide) (fun c_77 => ?_) (fun c_77 => ?_)
                · have hle : decide (S 18 12 d < S 18 12 c) = false := decide_eq_false (Int32.not_lt.mpr c_77)
                  refine g_iload_n hB 3 dX6_top_85 rfl rfl ?_
                  refine g_istore_n hB 3 dX6_top_86 rfl (by decide) ?_
                  refine g_iinc hB (nI (c + 1)) dX6_top_87 rfl (nI_1 _) (by decide) ?_
                  refine g_goto hB 5 dX6_top_90 (by decide) ?_
                  refine g_sub _ rfl (hnext _ ?_ (by omega))
                  first | (unfold bstep; rw [hok]; rfl) | (unfold bstep; rw [hok, hbn]; rfl) | (unfold bstep; rw [hok]; simp only [hle]; rfl)
                · have hle : decide (S 18 12 d < S 18 12 c) = true := decide_eq_true (Int32.not_le.mp c_77)
                  refine g_iload hB 4 dX6_top_80 rfl ?_
                  refine g_goto hB 86 dX6_top_82 (by decide) ?_
                  refine g_istore_n hB 3 dX6_top_86 rfl (by decide) ?_
                  refine g_iinc hB (nI (c + 1)) dX6_top_87 rfl (nI_1 _) (by decide) ?_
                  refine g_goto hB 5 dX6_top_90 (by decide) ?_
                  refine g_sub _ rfl (hnext _ ?_ (by omega))
                  first | (unfold bstep; rw [hok]; rfl) | (unfold bstep; rw [hok, hbn]; rfl) | (unfold bstep; rw [hok]; simp only [hle]; rfl)
  refine g_iconst hB (-1) dX6_top_0 rfl ?_
  refine g_istore_n hB 3 dX6_top_1 rfl (by decide) ?_
  refine g_iconst hB (nI 0) dX6_top_2 rfl ?_
  refine g_istore hB 4 dX6_top_3 (by decide) ?_
  exact g_sub _ rfl (loop (nc + 1) 0 (-1) (by omega) (by omega) rfl)
theorem c_X6_topOf (S : Mem) (m s k nc : Nat) (h : S 17 0 11 = nI nc) (hn : nc ≤ 40) (hm : m < 12) (hs : s ≤ 10) (hk : k < 6) : CI l yX6_topOf cX6_topOf 4 (some .int) { frames := 1, cells := 0, slots := 0, locals := 25 } D ad CNT ca SR (SH ad ca S) [.ref (ad 17 0), .int (nI m), .int (nI s), .int (nI k)] (PR ad ca (oI (mTop S nc m s k)) S) := by
  refine CI.of _ RX6 (by decide +kernel) rfl (Nat.le_of_ble_eq_true rfl) ?_
  intro p9 e9 s9 m9 a9 b9 me9 c9 A9 hB hr hnm9
  refine g_aload_n hB 0 dX6_topOf_0 rfl rfl ?_
  refine g_iload_n hB 2 dX6_topOf_1 rfl rfl ?_
  refine g_bipush hB (nI 10) dX6_topOf_2 rfl ?_
  refine n_icmp_ne hB s 10 14 dX6_topOf_4 (by decide) (by omega) (by omega) (fun c_4 => ?_) (fun c_4 => ?_)
  · have d_4 : decide (s = 10) = false := decide_eq_false c_4
    refine g_iload_n hB 2 dX6_topOf_14 rfl rfl ?_
    refine g_iload_n hB 3 dX6_topOf_15 rfl rfl ?_
    refine g_callVI hB (c_X6_top S _ _ nc h hn) k_X6_91 rfl yk_X6_top ⟨Nat.le_of_ble_eq_true rfl, Nat.le_of_ble_eq_true rfl⟩ ⟨(by decide), _, _, _, rfl, rfl, rfl⟩ rfl (Nat.le_of_ble_eq_true rfl) ⟨Nat.le_of_ble_eq_true rfl, Nat.le_of_ble_eq_true rfl⟩ dX6_topOf_16 ?_
    rintro _ _ ⟨rfl, rfl⟩
    exact g_iret hB hr rfl (Nat.le_of_ble_eq_true rfl) (Nat.le_of_ble_eq_true rfl) (⟨by first | (rw [mTop, plc, if_neg c_4]) | (rw [mTop, plc, if_pos c_4]), rfl⟩) dX6_topOf_19
  · have d_4 : decide (s = 10) = true := decide_eq_true c_4
    refine g_bipush hB (nI 100) dX6_topOf_7 rfl ?_
    refine g_iload_n hB 1 dX6_topOf_9 rfl rfl ?_
    refine g_iadd hB dX6_topOf_10 ?_
    refine g_top (nI (100 + m)) (nI_add _ _) ?_
    refine g_goto hB 15 dX6_topOf_11 (by decide) ?_
    refine g_iload_n hB 3 dX6_topOf_15 rfl rfl ?_
    refine g_callVI hB (c_X6_top S _ _ nc h hn) k_X6_91 rfl yk_X6_top ⟨Nat.le_of_ble_eq_true rfl, Nat.le_of_ble_eq_true rfl⟩ ⟨(by decide), _, _, _, rfl, rfl, rfl⟩ rfl (Nat.le_of_ble_eq_true rfl) ⟨Nat.le_of_ble_eq_true rfl, Nat.le_of_ble_eq_true rfl⟩ dX6_topOf_16 ?_
    rintro _ _ ⟨rfl, rfl⟩
    exact g_iret hB hr rfl (Nat.le_of_ble_eq_true rfl) (Nat.le_of_ble_eq_true rfl) (⟨by first | (rw [mTop, plc, if_neg c_4]) | (rw [mTop, plc, if_pos c_4]), rfl⟩) dX6_topOf_19
theorem c_X6_layers (S : Mem) (m g ng : Nat) (hp : PAR (S 18 2) ng) (hng : ng ≤ 10) (hg : g < ng) (hm : m < 12) (hgm : S 18 3 m = nI g) : CI l yX6_layers cX6_layers 4 (some .int) { frames := 0, cells := 0, slots := 0, locals := 0 } D ad CNT ca SR (SH ad ca S) [.ref (ad 17 0), .int (nI m)] (PR ad ca (nI ((lay (S 18 2) g).length)) S) := by
  refine CI.of _ RX6 (by decide +kernel) rfl (Nat.le_of_ble_eq_true rfl) ?_
  intro p9 e9 s9 m9 a9 b9 me9 c9 A9 hB hr hnm9
  have loop : ∀ (n j a : Nat), j < n → j < ng → a + (pth (S 18 2) j).length = (lay (S 18 2) g).length → G p9 l e9 { frames := 0, cells := 0, slots := 0, locals := 0 } s9 m9 a9 b9 me9 c9 D ad A9 4 (MQ b9 (va_Qi (PR ad ca (nI ((lay (S 18 2) g).length)) S) (fun E' t => WW D ad CNT A9 E' t.heap) A9) a9 s9 0 0 A9) 0 0 CNT (SH ad ca (S)) 9 [(0, .ref (ad 17 0)), (1, .int (nI m)), (2, .int (nI a)), (3, .int (nI j))] [] := by
    intro n
    induction n with
    | zero => intro j a h1 h2; omega
    | succ n ih =>
      intro j a h1 h2 ha
      rcases Nat.eq_zero_or_pos j with rfl | h0
      · refine g_iload_n hB 3 dX6_layers_9 rfl rfl ?_
        refine g_iconst hB (-1) dX6_layers_10 rfl ?_
        refine g_icmp_eq hB 27 dX6_layers_11 (by decide) (fun z => absurd z (m1_ne (by omega))) (fun _ => ?_)
        refine g_iinc hB (nI (a + 1)) dX6_layers_14 rfl (nI_1 _) (by decide) ?_
        refine g_aload_n hB 0 dX6_layers_17 rfl rfl ?_
        refine g_get (ci := 6) (T := TX6) (N := 26) hB in_X6 rfl 17 0 5 (by decide) (by decide) rfl tw_fl_X6_20 rfl dX6_layers_18 ?_
        refine g_iload_n hB 3 dX6_layers_21 rfl rfl ?_
        refine g_iald hB 18 2 0 (n := 10) (by decide) rfl (by first | assumption | omega) (Nat.le_of_ble_eq_true rfl) dX6_layers_22 ?_
        refine g_top ((-1)) (hp.1) ?_
        refine g_istore_n hB 3 dX6_layers_23 rfl (by decide) ?_
        refine g_goto hB 9 dX6_layers_24 (by decide) ?_
        refine g_iload_n hB 3 dX6_layers_9 rfl rfl ?_
        refine g_iconst hB (-1) dX6_layers_10 rfl ?_
        refine g_icmp_eq hB 27 dX6_layers_11 (by decide) (fun _ => ?_) (fun z => absurd rfl z)
        refine g_iload_n hB 2 dX6_layers_27 rfl rfl ?_
        exact g_iret hB hr rfl (Nat.le_of_ble_eq_true rfl) (Nat.le_of_ble_eq_true rfl) (⟨by rw [← ha]; rfl, rfl⟩) dX6_layers_28
      · obtain ⟨j', e1, e2⟩ := hp.2 j h0 h2
        have hl := congrArg List.length (pth_s hp hng h0 h2 e2 e1)
        rw [List.length_cons] at hl
        refine g_iload_n hB 3 dX6_layers_9 rfl rfl ?_
        refine g_iconst hB (-1) dX6_layers_10 rfl ?_
        refine g_icmp_eq hB 27 dX6_layers_11 (by decide) (fun z => absurd z (m1_ne (by omega))) (fun _ => ?_)
        refine g_iinc hB (nI (a + 1)) dX6_layers_14 rfl (nI_1 _) (by decide) ?_
        refine g_aload_n hB 0 dX6_layers_17 rfl rfl ?_
        refine g_get (ci := 6) (T := TX6) (N := 26) hB in_X6 rfl 17 0 5 (by decide) (by decide) rfl tw_fl_X6_20 rfl dX6_layers_18 ?_
        refine g_iload_n hB 3 dX6_layers_21 rfl rfl ?_
        refine g_iald hB 18 2 j (n := 10) (by decide) rfl (by first | assumption | omega) (Nat.le_of_ble_eq_true rfl) dX6_layers_22 ?_
        refine g_top (nI (j')) (e2) ?_
        refine g_istore_n hB 3 dX6_layers_23 rfl (by decide) ?_
        refine g_goto hB 9 dX6_layers_24 (by decide) ?_
        exact g_sub _ rfl (ih j' _ (by omega) (by omega) (by omega))
  refine g_iconst hB (nI 1) dX6_layers_0 rfl ?_
  refine g_istore_n hB 2 dX6_layers_1 rfl (by decide) ?_
  refine g_aload_n hB 0 dX6_layers_2 rfl rfl ?_
  refine g_get (ci := 6) (T := TX6) (N := 26) hB in_X6 rfl 17 0 8 (by decide) (by decide) rfl tw_fl_X6_26 rfl dX6_layers_3 ?_
  refine g_iload_n hB 1 dX6_layers_6 rfl rfl ?_
  refine g_iald hB 18 3 m (n := 12) (by decide) rfl (by first | assumption | omega) (Nat.le_of_ble_eq_true rfl) dX6_layers_7 ?_
  refine g_top (nI (g)) (hgm) ?_
  refine g_istore_n hB 3 dX6_layers_8 rfl (by decide) ?_
  exact g_sub _ rfl (loop (g + 1) g 1 (by omega) hg (Nat.add_comm _ _))
theorem c_X6_slot (S : Mem) (m g ng i : Nat) (hp : PAR (S 18 2) ng) (hng : ng ≤ 10) (hg : g < ng) (hm : m < 12) (hgm : S 18 3 m = nI g) (hi : i < (lay (S 18 2) g).length) : CI l yX6_slot cX6_slot 5 (some .int) { frames := 0, cells := 0, slots := 0, locals := 0 } D ad CNT ca SR (SH ad ca S) [.ref (ad 17 0), .int (nI m), .int (nI i)] (PR ad ca (nI ((lay (S 18 2) g).getD i 0)) S) := by
  have hlen := pth_len hp hng (g + 1) g (Nat.lt_succ_self g) hg
  have hi2 : i < (pth (S 18 2) g).length + 1 := hi
  refine CI.of _ RX6 (by decide +kernel) rfl (Nat.le_of_ble_eq_true rfl) ?_
  intro p9 e9 s9 m9 a9 b9 me9 c9 A9 hB hr hnm9
  rcases Nat.eq_zero_or_pos i with rfl | h0
  · refine g_iload_n hB 2 dX6_slot_0 rfl rfl ?_
    refine g_if_ne hB 7 dX6_slot_1 (by decide) (fun z => absurd rfl z) (fun _ => ?_)
    refine g_bipush hB (nI 10) dX6_slot_4 rfl ?_
    exact g_iret hB hr rfl (Nat.le_of_ble_eq_true rfl) (Nat.le_of_ble_eq_true rfl) (⟨rfl, rfl⟩) dX6_slot_6
  · have loop : ∀ (n j x : Nat), i - j < n → 0 < j → j ≤ i → x = (pth (S 18 2) g).getD (j - 1) 0 → G p9 l e9 { frames := 0, cells := 0, slots := 0, locals := 0 } s9 m9 a9 b9 me9 c9 D ad A9 5 (MQ b9 (va_Qi (PR ad ca (nI ((lay (S 18 2) g).getD i 0)) S) (fun E' t => WW D ad CNT A9 E' t.heap) A9) a9 s9 0 0 A9) 0 0 CNT (SH ad ca (S)) 17 [(0, .ref (ad 17 0)), (1, .int (nI m)), (2, .int (nI i)), (3, .int (nI x)), (4, .int (nI j))] [] := by
      intro n
      induction n with
      | zero => intro j a h1 h2; omega
      | succ n ih =>
        intro j x h1 h2 h3 hx
        refine g_iload hB 4 dX6_slot_17 rfl ?_
        refine g_iload_n hB 2 dX6_slot_19 rfl rfl ?_
        refine n_icmp_ge hB j i 36 dX6_slot_20 (by decide) (by omega) (by omega) (fun c_20 => ?_) (fun c_20 => ?_)
        · have hk : j = i := by omega
          subst hk
          obtain ⟨q, hq⟩ : ∃ q, j = q + 1 := ⟨j - 1, by omega⟩
          rw [hq] at hx ⊢
          refine g_iload_n hB 3 dX6_slot_36 rfl rfl ?_
          exact g_iret hB hr rfl (Nat.le_of_ble_eq_true rfl) (Nat.le_of_ble_eq_true rfl) (⟨by rw [hx]; rfl, rfl⟩) dX6_slot_37
        · obtain ⟨q, hq⟩ : ∃ q, j = q + 1 := ⟨j - 1, by omega⟩
          obtain ⟨y, h, a1, a2, a3, a4, a5, a6⟩ := pth_at hp hng (g + 1) g q (by omega) hg (by omega)
          have hxy : x = y := by rw [hx, ← a1, hq]; rfl
          subst hxy
          refine g_aload_n hB 0 dX6_slot_23 rfl rfl ?_
          refine g_get (ci := 6) (T := TX6) (N := 26) hB in_X6 rfl 17 0 5 (by decide) (by decide) rfl tw_fl_X6_20 rfl dX6_slot_24 ?_
          refine g_iload_n hB 3 dX6_slot_27 rfl rfl ?_
          refine g_iald hB 18 2 x (n := 10) (by decide) rfl (by first | assumption | omega) (Nat.le_of_ble_eq_true rfl) dX6_slot_28 ?_
          refine g_top (nI (h)) (a5) ?_
          refine g_istore_n hB 3 dX6_slot_29 rfl (by decide) ?_
          refine g_iinc hB (nI (j + 1)) dX6_slot_30 rfl (nI_1 _) (by decide) ?_
          refine g_goto hB 17 dX6_slot_33 (by decide) ?_
          exact g_sub _ rfl (ih _ _ (by omega) (by omega) (by omega) (by rw [← a6, hq]; rfl))
    refine g_iload_n hB 2 dX6_slot_0 rfl rfl ?_
    refine g_if_ne hB 7 dX6_slot_1 (by decide) (fun c_1 => ?_) (fun c_1 => ?_)
    · refine g_aload_n hB 0 dX6_slot_7 rfl rfl ?_
      refine g_get (ci := 6) (T := TX6) (N := 26) hB in_X6 rfl 17 0 8 (by decide) (by decide) rfl tw_fl_X6_26 rfl dX6_slot_8 ?_
      refine g_iload_n hB 1 dX6_slot_11 rfl rfl ?_
      refine g_iald hB 18 3 m (n := 12) (by decide) rfl (by first | assumption | omega) (Nat.le_of_ble_eq_true rfl) dX6_slot_12 ?_
      refine g_top (nI (g)) (hgm) ?_
      refine g_istore_n hB 3 dX6_slot_13 rfl (by decide) ?_
      refine g_iconst hB (nI 1) dX6_slot_14 rfl ?_
      refine g_istore hB 4 dX6_slot_15 (by decide) ?_
      exact g_sub _ rfl (loop (i + 1) 1 g (by omega) (by omega) (by omega) hlen.2.2.2.1.symm)
    · exact absurd c_1 (nI_ne0 h0 (by omega))
theorem c_X6_isHalted (S : Mem) (m : Nat) (hm : m < 12) (hT : TK S) : CI l yX6_isHalted cX6_isHalted 4 (some .boolean) { frames := 1, cells := 0, slots := 0, locals := 22 } D ad CNT ca SR (SH ad ca S) [.ref (ad 17 0), .int (nI m)] (PR ad ca (bI (mHalt S m)) S) := by
  refine CI.of _ RX6 (by decide +kernel) rfl (Nat.le_of_ble_eq_true rfl) ?_
  intro p9 e9 s9 m9 a9 b9 me9 c9 A9 hB hr hnm9
  have loop : ∀ (n i : Nat) (x : Int32), 66 - i < n → i ≤ 66 → x = bI (anyB (fun i => nhB S (S 18 5 (66 * m + i))) i) → G p9 l e9 { frames := 1, cells := 0, slots := 0, locals := 22 } s9 m9 a9 b9 me9 c9 D ad A9 4 (MQ b9 (va_Qi (PR ad ca (bI (mHalt S m)) S) (fun E' t => WW D ad CNT A9 E' t.heap) A9) a9 s9 0 0 A9) 0 0 CNT (SH ad ca (S)) 9 [(0, .ref (ad 17 0)), (1, .int (nI m)), (2, .int (x)), (3, .int (nI (66 * m + i)))] [] := by
    intro n
    induction n with
    | zero => intro i x h1 h2; omega
    | succ n ih =>
      intro i x h1 h2 hx
      obtain ⟨b, hb⟩ : ∃ b, b = anyB (fun i => nhB S (S 18 5 (66 * m + i))) i := ⟨_, rfl⟩
      rw [← hb] at hx
      subst hx
      refine g_iload_n hB 3 dX6_isHalted_9 rfl rfl ?_
      refine g_aload_n hB 0 dX6_isHalted_10 rfl rfl ?_
      refine g_iload_n hB 1 dX6_isHalted_11 rfl rfl ?_
      refine g_iconst hB (nI 1) dX6_isHalted_12 rfl ?_
      refine g_iadd hB dX6_isHalted_13 ?_
      refine g_top (nI (m + 1)) (nI_add _ _) ?_
      refine g_iconst hB (nI 0) dX6_isHalted_14 rfl ?_
      refine g_callVI hB (c_X6_cells S _ _) k_X6_102 rfl yk_X6_cells ⟨Nat.le_of_ble_eq_true rfl, Nat.le_of_ble_eq_true rfl⟩ ⟨(by decide), _, _, _, rfl, rfl, rfl⟩ rfl (Nat.le_of_ble_eq_true rfl) ⟨Nat.le_of_ble_eq_true rfl, Nat.le_of_ble_eq_true rfl⟩ dX6_isHalted_15 ?_
      rintro _ _ ⟨rfl, rfl⟩
      refine n_icmp_ge hB (66 * m + i) (6 * (11 * (m + 1) + 0)) 62 dX6_isHalted_18 (by decide) (by omega) (by omega) (fun c_18 => ?_) (fun c_18 => ?_)
      · have hk : i = 66 := by omega
        subst hk
        refine g_iload_n hB 2 dX6_isHalted_62 rfl rfl ?_
        exact g_iret hB hr (nar_b _) (Nat.le_of_ble_eq_true rfl) (Nat.le_of_ble_eq_true rfl) (⟨by rw [hb]; rfl, rfl⟩) dX6_isHalted_63
      · refine g_iload_n hB 2 dX6_isHalted_21 rfl rfl ?_
        refine b_if_ne hB (b) 50 dX6_isHalted_22 (by decide) (fun c_22 => ?_) (fun c_22 => ?_)
        · have hv : nI 1 = bI (b || nhB S (S 18 5 (66 * m + i))) := by rw [c_22]; rfl
          refine g_iconst hB (nI 1) dX6_isHalted_50 rfl ?_
          refine g_goto hB 55 dX6_isHalted_51 (by decide) ?_
          refine g_istore_n hB 2 dX6_isHalted_55 rfl (by decide) ?_
          refine g_iinc hB (nI (66 * m + i + 1)) dX6_isHalted_56 rfl (nI_1 _) (by decide) ?_
          refine g_goto hB 9 dX6_isHalted_59 (by decide) ?_
          exact g_sub _ rfl (ih (i + 1) _ (by omega) (by omega) (by rw [anyB, ← hb]; exact hv))
        · refine g_aload_n hB 0 dX6_isHalted_25 rfl rfl ?_
          refine g_get (ci := 6) (T := TX6) (N := 26) hB in_X6 rfl 17 0 10 (by decide) (by decide) rfl tw_fl_X6_32 rfl dX6_isHalted_26 ?_
          refine g_iload_n hB 3 dX6_isHalted_29 rfl rfl ?_
          refine g_iald hB 18 5 (66 * m + i) (n := 792) (by decide) rfl (by first | assumption | omega) (Nat.le_of_ble_eq_true rfl) dX6_isHalted_30 ?_
          refine g_iconst hB (-1) dX6_isHalted_31 rfl ?_
          refine g_icmp_eq hB 54 dX6_isHalted_32 (by decide) (fun c_32 => ?_) (fun c_32 => ?_)
          · have hv : nI 0 = bI (b || nhB S (S 18 5 (66 * m + i))) := by rw [c_22, nhB, c_32]; rfl
            refine g_iconst hB (nI 0) dX6_isHalted_54 rfl ?_
            refine g_istore_n hB 2 dX6_isHalted_55 rfl (by decide) ?_
            refine g_iinc hB (nI (66 * m + i + 1)) dX6_isHalted_56 rfl (nI_1 _) (by decide) ?_
            refine g_goto hB 9 dX6_isHalted_59 (by decide) ?_
            exact g_sub _ rfl (ih (i + 1) _ (by omega) (by omega) (by rw [anyB, ← hb]; exact hv))
          · obtain ⟨t, ht, et⟩ := (hT (66 * m + i) (by omega)).resolve_left c_32
            refine g_aload_n hB 0 dX6_isHalted_35 rfl rfl ?_
            refine g_get (ci := 6) (T := TX6) (N := 26) hB in_X6 rfl 17 0 18 (by decide) (by decide) rfl tw_fl_X6_50 rfl dX6_isHalted_36 ?_
            refine g_aload_n hB 0 dX6_isHalted_39 rfl rfl ?_
            refine g_get (ci := 6) (T := TX6) (N := 26) hB in_X6 rfl 17 0 10 (by decide) (by decide) rfl tw_fl_X6_32 rfl dX6_isHalted_40 ?_
            refine g_iload_n hB 3 dX6_isHalted_43 rfl rfl ?_
            refine g_iald hB 18 5 (66 * m + i) (n := 792) (by decide) rfl (by first | assumption | omega) (Nat.le_of_ble_eq_true rfl) dX6_isHalted_44 ?_
            refine g_top (nI (t)) (et) ?_
            refine g_iald hB 18 11 t (n := 40) (by decide) rfl (by first | assumption | omega) (Nat.le_of_ble_eq_true rfl) dX6_isHalted_45 ?_
            refine g_iconst hB (nI 1) dX6_isHalted_46 rfl ?_
            refine g_icmp_eq hB 54 dX6_isHalted_47 (by decide) (fun c_47 => ?_) (fun c_47 => ?_)
            · have hv : nI 0 = bI (b || nhB S (S 18 5 (66 * m + i))) := by rw [c_22, nhB, et, nI_clamp (by omega), decide_eq_false (p := S 18 11 t ≠ nI 1) (fun z => z c_47), Bool.and_false]; rfl
              refine g_iconst hB (nI 0) dX6_isHalted_54 rfl ?_
              refine g_istore_n hB 2 dX6_isHalted_55 rfl (by decide) ?_
              refine g_iinc hB (nI (66 * m + i + 1)) dX6_isHalted_56 rfl (nI_1 _) (by decide) ?_
              refine g_goto hB 9 dX6_isHalted_59 (by decide) ?_
              exact g_sub _ rfl (ih (i + 1) _ (by omega) (by omega) (by rw [anyB, ← hb]; exact hv))
            · have hv : nI 1 = bI (b || nhB S (S 18 5 (66 * m + i))) := by rw [c_22, nhB, et, nI_clamp (by omega), decide_eq_true (p := S 18 11 t ≠ nI 1) c_47, decide_eq_true (m1_ne (by omega))]; rfl
              refine g_iconst hB (nI 1) dX6_isHalted_50 rfl ?_
              refine g_goto hB 55 dX6_isHalted_51 (by decide) ?_
              refine g_istore_n hB 2 dX6_isHalted_55 rfl (by decide) ?_
              refine g_iinc hB (nI (66 * m + i + 1)) dX6_isHalted_56 rfl (nI_1 _) (by decide) ?_
              refine g_goto hB 9 dX6_isHalted_59 (by decide) ?_
              exact g_sub _ rfl (ih (i + 1) _ (by omega) (by omega) (by rw [anyB, ← hb]; exact hv))
  refine g_iconst hB (nI 0) dX6_isHalted_0 rfl ?_
  refine g_istore_n hB 2 dX6_isHalted_1 rfl (by decide) ?_
  refine g_aload_n hB 0 dX6_isHalted_2 rfl rfl ?_
  refine g_iload_n hB 1 dX6_isHalted_3 rfl rfl ?_
  refine g_iconst hB (nI 0) dX6_isHalted_4 rfl ?_
  refine g_callVI hB (c_X6_cells S _ _) k_X6_102 rfl yk_X6_cells ⟨Nat.le_of_ble_eq_true rfl, Nat.le_of_ble_eq_true rfl⟩ ⟨(by decide), _, _, _, rfl, rfl, rfl⟩ rfl (Nat.le_of_ble_eq_true rfl) ⟨Nat.le_of_ble_eq_true rfl, Nat.le_of_ble_eq_true rfl⟩ dX6_isHalted_5 ?_
  rintro _ _ ⟨rfl, rfl⟩
  refine g_istore_n hB 3 dX6_isHalted_8 rfl (by decide) ?_
  refine g_sub [(0, .ref (ad 17 0)), (1, .int (nI m)), (2, .int (bI false)), (3, .int (nI (66 * m + 0)))] (by rw [show 66 * m + 0 = 6 * (11 * m + 0) by omega]; rfl) (loop 67 0 (bI false) (by omega) (by omega) rfl)
theorem c_X6_lags (S : Mem) (m g ng i nc : Nat) (hp : PAR (S 18 2) ng) (hng : ng ≤ 10) (hg : g < ng) (hm : m < 12) (hgm : S 18 3 m = nI g) (hi : i < (lay (S 18 2) g).length) (h : S 17 0 11 = nI nc) (hn : nc ≤ 40) : CI l yX6_lags cX6_lags 6 (some .boolean) { frames := 2, cells := 0, slots := 0, locals := 48 } D ad CNT ca SR (SH ad ca S) [.ref (ad 17 0), .int (nI m), .int (nI i)] (PR ad ca (bI (mLag S nc m ((lay (S 18 2) g).getD i 0))) S) := by
  have hs : (lay (S 18 2) g).getD i 0 ≤ 10 := by
    cases i with
    | zero => exact Nat.le_refl _
    | succ i => exact Nat.le_of_lt (Nat.lt_of_lt_of_le (pth_in hp hng hg (Nat.lt_of_succ_lt_succ hi)) hng)
  generalize hsd : (lay (S 18 2) g).getD i 0 = s at hs
  refine CI.of _ RX6 (by decide +kernel) rfl (Nat.le_of_ble_eq_true rfl) ?_
  intro p9 e9 s9 m9 a9 b9 me9 c9 A9 hB hr hnm9
  have loop : ∀ (n k : Nat) (x : Int32), 6 - k < n → k ≤ 6 → x = bI (anyB (fun k => decide (S 18 5 (6 * (11 * m + s) + k) ≠ oI (mTop S nc m s k))) k) → G p9 l e9 { frames := 2, cells := 0, slots := 0, locals := 48 } s9 m9 a9 b9 me9 c9 D ad A9 6 (MQ b9 (va_Qi (PR ad ca (bI (mLag S nc m s)) S) (fun E' t => WW D ad CNT A9 E' t.heap) A9) a9 s9 0 0 A9) 0 0 CNT (SH ad ca (S)) 13 [(0, .ref (ad 17 0)), (1, .int (nI m)), (2, .int (nI i)), (3, .int (nI s)), (4, .int (x)), (5, .int (nI k))] [] := by
    intro n
    induction n with
    | zero => intro i x h1 h2; omega
    | succ n ih =>
      intro k x h1 h2 hx
      obtain ⟨b, hb⟩ : ∃ b, b = anyB (fun k => decide (S 18 5 (6 * (11 * m + s) + k) ≠ oI (mTop S nc m s k))) k := ⟨_, rfl⟩
      rw [← hb] at hx
      subst hx
      refine g_iload hB 5 dX6_lags_13 rfl ?_
      refine g_bipush hB (nI 6) dX6_lags_15 rfl ?_
      refine n_icmp_ge hB k 6 63 dX6_lags_17 (by decide) (by omega) (by omega) (fun c_17 => ?_) (fun c_17 => ?_)
      · have hk : k = 6 := by omega
        subst hk
        refine g_iload hB 4 dX6_lags_63 rfl ?_
        exact g_iret hB hr (nar_b _) (Nat.le_of_ble_eq_true rfl) (Nat.le_of_ble_eq_true rfl) (⟨by rw [hb]; rfl, rfl⟩) dX6_lags_65
      · refine g_iload hB 4 dX6_lags_20 rfl ?_
        refine b_if_ne hB (b) 50 dX6_lags_22 (by decide) (fun c_22 => ?_) (fun c_22 => ?_)
        · have hv : nI 1 = bI (b || decide (S 18 5 (6 * (11 * m + s) + k) ≠ oI (mTop S nc m s k))) := by rw [c_22]; rfl
          refine g_iconst hB (nI 1) dX6_lags_50 rfl ?_
          refine g_goto hB 55 dX6_lags_51 (by decide) ?_
          refine g_istore hB 4 dX6_lags_55 (by decide) ?_
          refine g_iinc hB (nI (k + 1)) dX6_lags_57 rfl (nI_1 _) (by decide) ?_
          refine g_goto hB 13 dX6_lags_60 (by decide) ?_
          exact g_sub _ rfl (ih (k + 1) _ (by omega) (by omega) (by rw [anyB, ← hb]; exact hv))
        · refine g_aload_n hB 0 dX6_lags_25 rfl rfl ?_
          refine g_get (ci := 6) (T := TX6) (N := 26) hB in_X6 rfl 17 0 10 (by decide) (by decide) rfl tw_fl_X6_32 rfl dX6_lags_26 ?_
          refine g_aload_n hB 0 dX6_lags_29 rfl rfl ?_
          refine g_iload_n hB 1 dX6_lags_30 rfl rfl ?_
          refine g_iload_n hB 3 dX6_lags_31 rfl rfl ?_
          refine g_callVI hB (c_X6_cells S _ _) k_X6_102 rfl yk_X6_cells ⟨Nat.le_of_ble_eq_true rfl, Nat.le_of_ble_eq_true rfl⟩ ⟨(by decide), _, _, _, rfl, rfl, rfl⟩ rfl (Nat.le_of_ble_eq_true rfl) ⟨Nat.le_of_ble_eq_true rfl, Nat.le_of_ble_eq_true rfl⟩ dX6_lags_32 ?_
          rintro _ _ ⟨rfl, rfl⟩
          refine g_iload hB 5 dX6_lags_35 rfl ?_
          refine g_iadd hB dX6_lags_37 ?_
          refine g_top (nI (6 * (11 * m + s) + k)) (nI_add _ _) ?_
          refine g_iald hB 18 5 (6 * (11 * m + s) + k) (n := 792) (by decide) rfl (by first | assumption | omega) (Nat.le_of_ble_eq_true rfl) dX6_lags_38 ?_
          refine g_aload_n hB 0 dX6_lags_39 rfl rfl ?_
          refine g_iload_n hB 1 dX6_lags_40 rfl rfl ?_
          refine g_iload_n hB 3 dX6_lags_41 rfl rfl ?_
          refine g_iload hB 5 dX6_lags_42 rfl ?_
          refine g_callVI hB (c_X6_topOf S m s k nc h hn hm hs (by omega)) k_X6_105 rfl yk_X6_topOf ⟨Nat.le_of_ble_eq_true rfl, Nat.le_of_ble_eq_true rfl⟩ ⟨(by decide), _, _, _, rfl, rfl, rfl⟩ rfl (Nat.le_of_ble_eq_true rfl) ⟨Nat.le_of_ble_eq_true rfl, Nat.le_of_ble_eq_true rfl⟩ dX6_lags_44 ?_
          rintro _ _ ⟨rfl, rfl⟩
          refine g_icmp_eq hB 54 dX6_lags_47 (by decide) (fun c_47 => ?_) (fun c_47 => ?_)
          · have hv : nI 0 = bI (b || decide (S 18 5 (6 * (11 * m + s) + k) ≠ oI (mTop S nc m s k))) := by rw [c_22, decide_eq_false (fun z => z c_47)]; rfl
            refine g_iconst hB (nI 0) dX6_lags_54 rfl ?_
            refine g_istore hB 4 dX6_lags_55 (by decide) ?_
            refine g_iinc hB (nI (k + 1)) dX6_lags_57 rfl (nI_1 _) (by decide) ?_
            refine g_goto hB 13 dX6_lags_60 (by decide) ?_
            exact g_sub _ rfl (ih (k + 1) _ (by omega) (by omega) (by rw [anyB, ← hb]; exact hv))
          · have hv : nI 1 = bI (b || decide (S 18 5 (6 * (11 * m + s) + k) ≠ oI (mTop S nc m s k))) := by rw [c_22, decide_eq_true c_47]; rfl
            refine g_iconst hB (nI 1) dX6_lags_50 rfl ?_
            refine g_goto hB 55 dX6_lags_51 (by decide) ?_
            refine g_istore hB 4 dX6_lags_55 (by decide) ?_
            refine g_iinc hB (nI (k + 1)) dX6_lags_57 rfl (nI_1 _) (by decide) ?_
            refine g_goto hB 13 dX6_lags_60 (by decide) ?_
            exact g_sub _ rfl (ih (k + 1) _ (by omega) (by omega) (by rw [anyB, ← hb]; exact hv))
  refine g_aload_n hB 0 dX6_lags_0 rfl rfl ?_
  refine g_iload_n hB 1 dX6_lags_1 rfl rfl ?_
  refine g_iload_n hB 2 dX6_lags_2 rfl rfl ?_
  refine g_callVI hB (c_X6_slot S m g ng i hp hng hg hm hgm hi) k_X6_99 rfl yk_X6_slot ⟨Nat.le_of_ble_eq_true rfl, Nat.le_of_ble_eq_true rfl⟩ ⟨(by decide), _, _, _, rfl, rfl, rfl⟩ rfl (Nat.le_of_ble_eq_true rfl) ⟨Nat.le_of_ble_eq_true rfl, Nat.le_of_ble_eq_true rfl⟩ dX6_lags_3 ?_
  rintro _ _ ⟨rfl, rfl⟩
  rw [hsd]
  refine g_istore_n hB 3 dX6_lags_6 rfl (by decide) ?_
  refine g_iconst hB (nI 0) dX6_lags_7 rfl ?_
  refine g_istore hB 4 dX6_lags_8 (by decide) ?_
  refine g_iconst hB (nI 0) dX6_lags_10 rfl ?_
  refine g_istore hB 5 dX6_lags_11 (by decide) ?_
  exact g_sub _ rfl (loop 7 0 (bI false) (by omega) (by omega) rfl)
end M2
