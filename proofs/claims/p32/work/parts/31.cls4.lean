/-! the class: outcome, what is due anew -/
section X4
variable {l : Launch} {D : va_G} {ad : Nat → Nat → Nat} {ca : Nat → ClassId} {SR : List (String × Nat × String)}
theorem upd_self {f : Nat → Int32} {j : Nat} : upd f j (f j) = f := by
  funext q
  unfold upd
  by_cases h : q = j
  · rw [if_pos h, h]
  · rw [if_neg h]
theorem uM_self {S : Mem} {k i j : Nat} : uM S k i j (S k i j) = S := by unfold uM; rw [upd_self, uS_self]
theorem uM_uM {S : Mem} {k i j : Nat} {x y : Int32} : uM (uM S k i j x) k i j y = uM S k i j y := by
  funext a b c
  simp only [uM_ap]
  by_cases h : a = k ∧ b = i ∧ c = j
  · rw [if_pos h, if_pos h]
  · rw [if_neg h, if_neg h, if_neg h]
def hiM (S : Mem) : Mem := uM S 15 0 3 (hrow S (S 15 0 3) 6)
theorem c_X3_forget (S : Mem) : CV l yX3_forget cX3_forget 1 none { frames := 1, cells := 0, slots := 0, locals := 23 } D ad CNT ca SR (SH ad ca S) [.ref (ad 15 0)] (PM ad ca (ogM S)) := by
  refine CV.of _ RX3 (by decide +kernel) rfl (Nat.le_of_ble_eq_true rfl) ?_
  intro p9 e9 s9 m9 a9 b9 me9 c9 A9 hB hr hnm9
  refine g_aload_n hB 0 dX3_forget_0 rfl rfl ?_
  refine g_get (ci := 3) (T := TX3) (N := 4) hB in_X3 rfl 15 0 0 (by decide) (by decide) rfl tw_fl_X3_9 rfl dX3_forget_1 ?_
  refine g_iconst hB (-1) dX3_forget_4 rfl ?_
  refine g_callSV hB (c_J7_fill_53178 _ 16 0 6 _ (by decide) (fun _ => rfl) (by decide)) k_X3_21 yk_J7_fill_53178 ⟨Nat.le_of_ble_eq_true rfl, Nat.le_of_ble_eq_true rfl⟩ rfl (Nat.le_of_ble_eq_true rfl) ⟨Nat.le_of_ble_eq_true rfl, Nat.le_of_ble_eq_true rfl⟩ dX3_forget_5 ?_
  rintro _ rfl
  refine g_aload_n hB 0 dX3_forget_8 rfl rfl ?_
  refine g_iconst hB (nI 0) dX3_forget_9 rfl ?_
  refine s_put (ci := 3) (T := TX3) (N := 4) hB in_X3 rfl tyX3 tyX3_ok nmX3 15 0 3 (by decide) (by decide) rfl rfl tw_fl_X3_27 rfl rfl rfl (Nat.le_of_ble_eq_true rfl) dX3_forget_10 ?_
  exact g_vret hB hr (Nat.le_of_ble_eq_true rfl) (Nat.le_of_ble_eq_true rfl) (rfl) dX3_forget_13
theorem c_X3_set (S : Mem) (k j : Nat) (v r : Int32) (hk : k < 6) : CV l yX3_set cX3_set 5 none { frames := 0, cells := 0, slots := 0, locals := 0 } D ad CNT ca SR (SH ad ca S) [.ref (ad 15 0), .int (nI k), .int (v), .int (nI j), .int (r)] (PM ad ca (uM (uM (uM S 16 0 k v) 16 1 k (nI j)) 16 2 k r)) := by
  refine CV.of _ RX3 (by decide +kernel) rfl (Nat.le_of_ble_eq_true rfl) ?_
  intro p9 e9 s9 m9 a9 b9 me9 c9 A9 hB hr hnm9
  refine g_aload_n hB 0 dX3_set_0 rfl rfl ?_
  refine g_get (ci := 3) (T := TX3) (N := 4) hB in_X3 rfl 15 0 0 (by decide) (by decide) rfl tw_fl_X3_9 rfl dX3_set_1 ?_
  refine g_iload_n hB 1 dX3_set_4 rfl rfl ?_
  refine g_iload_n hB 2 dX3_set_5 rfl rfl ?_
  refine s_iast hB 16 0 k (n := 6) (by decide) (fun _ => rfl) (by first | assumption | omega) (Nat.le_of_ble_eq_true rfl) dX3_set_6 ?_
  refine g_aload_n hB 0 dX3_set_7 rfl rfl ?_
  refine g_get (ci := 3) (T := TX3) (N := 4) hB in_X3 rfl 15 0 1 (by decide) (by decide) rfl tw_fl_X3_15 rfl dX3_set_8 ?_
  refine g_iload_n hB 1 dX3_set_11 rfl rfl ?_
  refine g_iload_n hB 3 dX3_set_12 rfl rfl ?_
  refine s_iast hB 16 1 k (n := 6) (by decide) (fun _ => rfl) (by first | assumption | omega) (Nat.le_of_ble_eq_true rfl) dX3_set_13 ?_
  refine g_aload_n hB 0 dX3_set_14 rfl rfl ?_
  refine g_get (ci := 3) (T := TX3) (N := 4) hB in_X3 rfl 15 0 2 (by decide) (by decide) rfl tw_fl_X3_18 rfl dX3_set_15 ?_
  refine g_iload_n hB 1 dX3_set_18 rfl rfl ?_
  refine g_iload hB 4 dX3_set_19 rfl ?_
  refine s_iast hB 16 2 k (n := 6) (by decide) (fun _ => rfl) (by first | assumption | omega) (Nat.le_of_ble_eq_true rfl) dX3_set_21 ?_
  exact g_vret hB hr (Nat.le_of_ble_eq_true rfl) (Nat.le_of_ble_eq_true rfl) (rfl) dX3_set_22
theorem c_X3_yields (S : Mem) (k o : Nat) (hk : k < 6) (ho : o < 6) : CI l yX3_yields cX3_yields 3 (some .boolean) { frames := 0, cells := 0, slots := 0, locals := 0 } D ad CNT ca SR (SH ad ca S) [.ref (ad 15 0), .int (nI k), .int (nI o)] (PR ad ca (bI (ylB S k o)) S) := by
  refine CI.of _ RX3 (by decide +kernel) rfl (Nat.le_of_ble_eq_true rfl) ?_
  intro p9 e9 s9 m9 a9 b9 me9 c9 A9 hB hr hnm9
  refine g_aload_n hB 0 dX3_yields_0 rfl rfl ?_
  refine g_get (ci := 3) (T := TX3) (N := 4) hB in_X3 rfl 15 0 0 (by decide) (by decide) rfl tw_fl_X3_9 rfl dX3_yields_1 ?_
  refine g_iload_n hB 1 dX3_yields_4 rfl rfl ?_
  refine g_iald hB 16 0 k (n := 6) (by decide) rfl (by first | assumption | omega) (Nat.le_of_ble_eq_true rfl) dX3_yields_5 ?_
  refine g_iconst hB (-1) dX3_yields_6 rfl ?_
  refine g_icmp_eq hB 20 dX3_yields_7 (by decide) (fun c_7 => ?_) (fun c_7 => ?_)
  · have e : ylB S k o = false := by unfold ylB; rw [decide_eq_true c_7]; rfl
    refine g_iconst hB (nI 0) dX3_yields_20 rfl ?_
    exact g_iret hB hr rfl (Nat.le_of_ble_eq_true rfl) (Nat.le_of_ble_eq_true rfl) (⟨by rw [e]; rfl, rfl⟩) dX3_yields_21
  · refine g_aload_n hB 0 dX3_yields_10 rfl rfl ?_
    refine g_get (ci := 3) (T := TX3) (N := 4) hB in_X3 rfl 15 0 0 (by decide) (by decide) rfl tw_fl_X3_9 rfl dX3_yields_11 ?_
    refine g_iload_n hB 2 dX3_yields_14 rfl rfl ?_
    refine g_iald hB 16 0 o (n := 6) (by decide) rfl (by first | assumption | omega) (Nat.le_of_ble_eq_true rfl) dX3_yields_15 ?_
    refine g_iconst hB (-1) dX3_yields_16 rfl ?_
    refine g_icmp_ne hB 22 dX3_yields_17 (by decide) (fun c_17 => ?_) (fun c_17 => ?_)
    · have e0 : ylB S k o = bif decide (S 16 1 k = S 16 1 o) then decide (S 16 2 k < S 16 2 o) else decide (S 16 1 o < S 16 1 k) := by unfold ylB; rw [decide_eq_false c_7, decide_eq_false c_17]; rfl
      refine g_aload_n hB 0 dX3_yields_22 rfl rfl ?_
      refine g_get (ci := 3) (T := TX3) (N := 4) hB in_X3 rfl 15 0 1 (by decide) (by decide) rfl tw_fl_X3_15 rfl dX3_yields_23 ?_
      refine g_iload_n hB 1 dX3_yields_26 rfl rfl ?_
      refine g_iald hB 16 1 k (n := 6) (by decide) rfl (by first | assumption | omega) (Nat.le_of_ble_eq_true rfl) dX3_yields_27 ?_
      refine g_aload_n hB 0 dX3_yields_28 rfl rfl ?_
      refine g_get (ci := 3) (T := TX3) (N := 4) hB in_X3 rfl 15 0 1 (by decide) (by decide) rfl tw_fl_X3_15 rfl dX3_yields_29 ?_
      refine g_iload_n hB 2 dX3_yields_32 rfl rfl ?_
      refine g_iald hB 16 1 o (n := 6) (by decide) rfl (by first | assumption | omega) (Nat.le_of_ble_eq_true rfl) dX3_yields_33 ?_
      refine g_icmp_eq hB 58 dX3_yields_34 (by decide) (fun c_34 => ?_) (fun c_34 => ?_)
      · rw [decide_eq_true c_34] at e0
        refine g_aload_n hB 0 dX3_yields_58 rfl rfl ?_
        refine g_get (ci := 3) (T := TX3) (N := 4) hB in_X3 rfl 15 0 2 (by decide) (by decide) rfl tw_fl_X3_18 rfl dX3_yields_59 ?_
        refine g_iload_n hB 1 dX3_yields_62 rfl rfl ?_
        refine g_iald hB 16 2 k (n := 6) (by decide) rfl (by first | assumption | omega) (Nat.le_of_ble_eq_true rfl) dX3_yields_63 ?_
        refine g_aload_n hB 0 dX3_yields_64 rfl rfl ?_
        refine g_get (ci := 3) (T := TX3) (N := 4) hB in_X3 rfl 15 0 2 (by decide) (by decide) rfl tw_fl_X3_18 rfl dX3_yields_65 ?_
        refine g_iload_n hB 2 dX3_yields_68 rfl rfl ?_
        refine g_iald hB 16 2 o (n := 6) (by decide) rfl (by first | assumption | omega) (Nat.le_of_ble_eq_true rfl) dX3_yields_69 ?_
        refine g_icmp_ge hB 77 dX3_yields_70 (by decide) (fun c_70 => ?_) (fun c_70 => ?_)
        · have e : ylB S k o = false := e0.trans (decide_eq_false (Int32.not_lt.mpr c_70))
          refine g_iconst hB (nI 0) dX3_yields_77 rfl ?_
          exact g_iret hB hr rfl (Nat.le_of_ble_eq_true rfl) (Nat.le_of_ble_eq_true rfl) (⟨by rw [e]; rfl, rfl⟩) dX3_yields_78
        · have e : ylB S k o = true := e0.trans (decide_eq_true (Int32.not_le.mp c_70))
          refine g_iconst hB (nI 1) dX3_yields_73 rfl ?_
          refine g_goto hB 78 dX3_yields_74 (by decide) ?_
          exact g_iret hB hr rfl (Nat.le_of_ble_eq_true rfl) (Nat.le_of_ble_eq_true rfl) (⟨by rw [e]; rfl, rfl⟩) dX3_yields_78
      · rw [decide_eq_false c_34] at e0
        refine g_aload_n hB 0 dX3_yields_37 rfl rfl ?_
        refine g_get (ci := 3) (T := TX3) (N := 4) hB in_X3 rfl 15 0 1 (by decide) (by decide) rfl tw_fl_X3_15 rfl dX3_yields_38 ?_
        refine g_iload_n hB 1 dX3_yields_41 rfl rfl ?_
        refine g_iald hB 16 1 k (n := 6) (by decide) rfl (by first | assumption | omega) (Nat.le_of_ble_eq_true rfl) dX3_yields_42 ?_
        refine g_aload_n hB 0 dX3_yields_43 rfl rfl ?_
        refine g_get (ci := 3) (T := TX3) (N := 4) hB in_X3 rfl 15 0 1 (by decide) (by decide) rfl tw_fl_X3_15 rfl dX3_yields_44 ?_
        refine g_iload_n hB 2 dX3_yields_47 rfl rfl ?_
        refine g_iald hB 16 1 o (n := 6) (by decide) rfl (by first | assumption | omega) (Nat.le_of_ble_eq_true rfl) dX3_yields_48 ?_
        refine g_icmp_le hB 56 dX3_yields_49 (by decide) (fun c_49 => ?_) (fun c_49 => ?_)
        · have e : ylB S k o = false := e0.trans (decide_eq_false (Int32.not_lt.mpr c_49))
          refine g_iconst hB (nI 0) dX3_yields_56 rfl ?_
          exact g_iret hB hr rfl (Nat.le_of_ble_eq_true rfl) (Nat.le_of_ble_eq_true rfl) (⟨by rw [e]; rfl, rfl⟩) dX3_yields_57
        · have e : ylB S k o = true := e0.trans (decide_eq_true (Int32.not_le.mp c_49))
          refine g_iconst hB (nI 1) dX3_yields_52 rfl ?_
          refine g_goto hB 57 dX3_yields_53 (by decide) ?_
          exact g_iret hB hr rfl (Nat.le_of_ble_eq_true rfl) (Nat.le_of_ble_eq_true rfl) (⟨by rw [e]; rfl, rfl⟩) dX3_yields_57
    · have e : ylB S k o = false := by unfold ylB; rw [decide_eq_false c_7, decide_eq_true c_17]; rfl
      refine g_iconst hB (nI 0) dX3_yields_20 rfl ?_
      exact g_iret hB hr rfl (Nat.le_of_ble_eq_true rfl) (Nat.le_of_ble_eq_true rfl) (⟨by rw [e]; rfl, rfl⟩) dX3_yields_21
theorem c_X3_hideExcluded (S : Mem) : CV l yX3_hideExcluded cX3_hideExcluded 4 none { frames := 1, cells := 0, slots := 0, locals := 22 } D ad CNT ca SR (SH ad ca S) [.ref (ad 15 0), .ref (ad 1 2)] (PM ad ca (hiM S)) := by
  refine CV.of _ RX3 (by decide +kernel) rfl (Nat.le_of_ble_eq_true rfl) ?_
  intro p9 e9 s9 m9 a9 b9 me9 c9 A9 hB hr hnm9
  have loop : ∀ (n k : Nat), 6 - k < n → k ≤ 6 → G p9 l e9 { frames := 1, cells := 0, slots := 0, locals := 22 } s9 m9 a9 b9 me9 c9 D ad A9 4 (MQ b9 (va_Qv (PM ad ca (hiM S)) (fun E' t => WW D ad CNT A9 E' t.heap) A9) a9 s9 0 0 A9) 0 0 CNT (SH ad ca (uM S 15 0 3 (hrow S (S 15 0 3) k))) 2 [(0, .ref (ad 15 0)), (1, .ref (ad 1 2)), (2, .int (nI k))] [] := by
    intro n
    induction n with
    | zero => intro k h1; omega
    | succ n ih =>
      intro k h1 h2
      have inner : k < 6 → ∀ (n' o : Nat), 6 - o < n' → o ≤ 6 → G p9 l e9 { frames := 1, cells := 0, slots := 0, locals := 22 } s9 m9 a9 b9 me9 c9 D ad A9 4 (MQ b9 (va_Qv (PM ad ca (hiM S)) (fun E' t => WW D ad CNT A9 E' t.heap) A9) a9 s9 0 0 A9) 0 0 CNT (SH ad ca (uM S 15 0 3 (hcol S k (hrow S (S 15 0 3) k) o))) 10 [(0, .ref (ad 15 0)), (1, .ref (ad 1 2)), (2, .int (nI k)), (3, .int (nI o))] [] := by
        intro hk n'
        induction n' with
        | zero => intro o h1; omega
        | succ n' ih' =>
          intro o h3 h4
          refine g_iload_n hB 3 dX3_hideExcluded_10 rfl rfl ?_
          refine g_bipush hB (nI 6) dX3_hideExcluded_11 rfl ?_
          refine n_icmp_ge hB o 6 54 dX3_hideExcluded_13 (by decide) (by omega) (by omega) (fun c_13 => ?_) (fun c_13 => ?_)
          · have ho : o = 6 := by omega
            subst ho
            refine g_iinc hB (nI (k + 1)) dX3_hideExcluded_54 rfl (nI_1 _) (by decide) ?_
            refine g_goto hB 2 dX3_hideExcluded_57 (by decide) ?_
            exact g_sub _ rfl (ih (k + 1) (by omega) (by omega))
          · refine g_aload_n hB 1 dX3_hideExcluded_16 rfl rfl ?_
            refine g_iload_n hB 2 dX3_hideExcluded_17 rfl rfl ?_
            refine g_iald hB 1 2 k (n := 6) (by decide) rfl (by first | assumption | omega) (Nat.le_of_ble_eq_true rfl) dX3_hideExcluded_18 ?_
            refine g_iload_n hB 3 dX3_hideExcluded_19 rfl rfl ?_
            refine g_callNI hB (host := RX5) (c_X5_contains _ _ _) tw_code_X5_contains (by decide) tw_ini_X5 tw_st_X5_contains yk_X5_contains ⟨Nat.le_of_ble_eq_true rfl, Nat.le_of_ble_eq_true rfl⟩ rfl (Nat.le_of_ble_eq_true rfl) ⟨Nat.le_of_ble_eq_true rfl, Nat.le_of_ble_eq_true rfl⟩ dX3_hideExcluded_20 ?_
            rintro _ _ ⟨rfl, rfl⟩
            refine b_if_eq hB (cntI (S 1 2 k) (nI o)) 48 dX3_hideExcluded_23 (by decide) (fun c_23 => ?_) (fun c_23 => ?_)
            · have e : (cntI (S 1 2 k) (nI o) && ylB S k o) = false := by rw [c_23]; rfl
              refine g_iinc hB (nI (o + 1)) dX3_hideExcluded_48 rfl (nI_1 _) (by decide) ?_
              refine g_goto hB 10 dX3_hideExcluded_51 (by decide) ?_
              refine s_eq _ ?_ (g_sub _ rfl (ih' (o + 1) (by omega) (by omega)))
              rw [hcol, e]
              rfl
            · refine g_aload_n hB 0 dX3_hideExcluded_26 rfl rfl ?_
              refine g_iload_n hB 2 dX3_hideExcluded_27 rfl rfl ?_
              refine g_iload_n hB 3 dX3_hideExcluded_28 rfl rfl ?_
              refine g_callVI hB (c_X3_yields _ k o hk c_13) k_X3_35 rfl yk_X3_yields ⟨Nat.le_of_ble_eq_true rfl, Nat.le_of_ble_eq_true rfl⟩ ⟨(by decide), _, _, _, rfl, rfl, rfl⟩ rfl (Nat.le_of_ble_eq_true rfl) ⟨Nat.le_of_ble_eq_true rfl, Nat.le_of_ble_eq_true rfl⟩ dX3_hideExcluded_29 ?_
              rintro _ _ ⟨rfl, rfl⟩
              refine b_if_eq hB (ylB S k o) 48 dX3_hideExcluded_32 (by decide) (fun c_32 => ?_) (fun c_32 => ?_)
              · have e : (cntI (S 1 2 k) (nI o) && ylB S k o) = false := by rw [c_32, Bool.and_false]
                refine g_iinc hB (nI (o + 1)) dX3_hideExcluded_48 rfl (nI_1 _) (by decide) ?_
                refine g_goto hB 10 dX3_hideExcluded_51 (by decide) ?_
                refine s_eq _ ?_ (g_sub _ rfl (ih' (o + 1) (by omega) (by omega)))
                rw [hcol, e]
                rfl
              · have e : (cntI (S 1 2 k) (nI o) && ylB S k o) = true := by rw [c_23, c_32]; rfl
                refine g_aload_n hB 0 dX3_hideExcluded_35 rfl rfl ?_
                refine g_aload_n hB 0 dX3_hideExcluded_36 rfl rfl ?_
                refine g_get (ci := 3) (T := TX3) (N := 4) hB in_X3 rfl 15 0 3 (by decide) (by decide) rfl tw_fl_X3_27 rfl dX3_hideExcluded_37 ?_
                refine g_top ((hcol S k (hrow S (S 15 0 3) k) o)) (uM_s) ?_
                refine g_iload_n hB 2 dX3_hideExcluded_40 rfl rfl ?_
                refine g_iconst hB (nI 1) dX3_hideExcluded_41 rfl ?_
                refine g_callNI hB (host := RX5) (c_X5_with _ _ _ true) tw_code_X5_with (by decide) tw_ini_X5 tw_st_X5_with yk_X5_with ⟨Nat.le_of_ble_eq_true rfl, Nat.le_of_ble_eq_true rfl⟩ rfl (Nat.le_of_ble_eq_true rfl) ⟨Nat.le_of_ble_eq_true rfl, Nat.le_of_ble_eq_true rfl⟩ dX3_hideExcluded_42 ?_
                rintro _ _ ⟨rfl, rfl⟩
                refine s_put (ci := 3) (T := TX3) (N := 4) hB in_X3 rfl tyX3 tyX3_ok nmX3 15 0 3 (by decide) (by decide) rfl rfl tw_fl_X3_27 rfl rfl rfl (Nat.le_of_ble_eq_true rfl) dX3_hideExcluded_45 ?_
                refine g_iinc hB (nI (o + 1)) dX3_hideExcluded_48 rfl (nI_1 _) (by decide) ?_
                refine g_goto hB 10 dX3_hideExcluded_51 (by decide) ?_
                refine s_eq _ ?_ (g_sub _ rfl (ih' (o + 1) (by omega) (by omega)))
                rw [hcol, e]
                rw [uM_uM]
                rfl
      refine g_iload_n hB 2 dX3_hideExcluded_2 rfl rfl ?_
      refine g_bipush hB (nI 6) dX3_hideExcluded_3 rfl ?_
      refine n_icmp_ge hB k 6 60 dX3_hideExcluded_5 (by decide) (by omega) (by omega) (fun c_5 => ?_) (fun c_5 => ?_)
      · have hk : k = 6 := by omega
        subst hk
        exact g_vret hB hr (Nat.le_of_ble_eq_true rfl) (Nat.le_of_ble_eq_true rfl) (rfl) dX3_hideExcluded_60
      · refine g_iconst hB (nI 0) dX3_hideExcluded_8 rfl ?_
        refine g_istore_n hB 3 dX3_hideExcluded_9 rfl (by decide) ?_
        exact g_sub _ rfl (inner c_5 7 0 (by omega) (by omega))
  refine g_iconst hB (nI 0) dX3_hideExcluded_0 rfl ?_
  refine g_istore_n hB 2 dX3_hideExcluded_1 rfl (by decide) ?_
  refine s_eq _ ?_ (g_sub _ rfl (loop 7 0 (by omega) (by omega)))
  exact uM_self.symm
theorem c_X3_valueIfShown (S : Mem) (k : Nat) (hk : k < 6) : CI l yX3_valueIfShown cX3_valueIfShown 2 (some .int) { frames := 1, cells := 0, slots := 0, locals := 21 } D ad CNT ca SR (SH ad ca S) [.ref (ad 15 0), .int (nI k)] (PR ad ca (vsh S k) S) := by
  refine CI.of _ RX3 (by decide +kernel) rfl (Nat.le_of_ble_eq_true rfl) ?_
  intro p9 e9 s9 m9 a9 b9 me9 c9 A9 hB hr hnm9
  refine g_aload_n hB 0 dX3_valueIfShown_0 rfl rfl ?_
  refine g_get (ci := 3) (T := TX3) (N := 4) hB in_X3 rfl 15 0 3 (by decide) (by decide) rfl tw_fl_X3_27 rfl dX3_valueIfShown_1 ?_
  refine g_iload_n hB 1 dX3_valueIfShown_4 rfl rfl ?_
  refine g_callNI hB (host := RX5) (c_X5_contains _ _ _) tw_code_X5_contains (by decide) tw_ini_X5 tw_st_X5_contains yk_X5_contains ⟨Nat.le_of_ble_eq_true rfl, Nat.le_of_ble_eq_true rfl⟩ rfl (Nat.le_of_ble_eq_true rfl) ⟨Nat.le_of_ble_eq_true rfl, Nat.le_of_ble_eq_true rfl⟩ dX3_valueIfShown_5 ?_
  rintro _ _ ⟨rfl, rfl⟩
  refine b_if_eq hB (cntI (S 15 0 3) (nI k)) 15 dX3_valueIfShown_8 (by decide) (fun c_8 => ?_) (fun c_8 => ?_)
  · refine g_aload_n hB 0 dX3_valueIfShown_15 rfl rfl ?_
    refine g_get (ci := 3) (T := TX3) (N := 4) hB in_X3 rfl 15 0 0 (by decide) (by decide) rfl tw_fl_X3_9 rfl dX3_valueIfShown_16 ?_
    refine g_iload_n hB 1 dX3_valueIfShown_19 rfl rfl ?_
    refine g_iald hB 16 0 k (n := 6) (by decide) rfl (by first | assumption | omega) (Nat.le_of_ble_eq_true rfl) dX3_valueIfShown_20 ?_
    exact g_iret hB hr rfl (Nat.le_of_ble_eq_true rfl) (Nat.le_of_ble_eq_true rfl) (⟨by unfold vsh; rw [c_8]; rfl, rfl⟩) dX3_valueIfShown_21
  · refine g_iconst hB (-1) dX3_valueIfShown_11 rfl ?_
    refine g_goto hB 21 dX3_valueIfShown_12 (by decide) ?_
    exact g_iret hB hr rfl (Nat.le_of_ble_eq_true rfl) (Nat.le_of_ble_eq_true rfl) (⟨by unfold vsh; rw [c_8]; rfl, rfl⟩) dX3_valueIfShown_21
theorem c_X3_layerIfShown (S : Mem) (k : Nat) (hk : k < 6) : CI l yX3_layerIfShown cX3_layerIfShown 2 (some .int) { frames := 2, cells := 0, slots := 0, locals := 42 } D ad CNT ca SR (SH ad ca S) [.ref (ad 15 0), .int (nI k)] (PR ad ca (bif decide (vsh S k = -1) then -1 else S 16 1 k) S) := by
  refine CI.of _ RX3 (by decide +kernel) rfl (Nat.le_of_ble_eq_true rfl) ?_
  intro p9 e9 s9 m9 a9 b9 me9 c9 A9 hB hr hnm9
  refine g_aload_n hB 0 dX3_layerIfShown_0 rfl rfl ?_
  refine g_iload_n hB 1 dX3_layerIfShown_1 rfl rfl ?_
  refine g_callVI hB (c_X3_valueIfShown _ k hk) k_X3_42 rfl yk_X3_valueIfShown ⟨Nat.le_of_ble_eq_true rfl, Nat.le_of_ble_eq_true rfl⟩ ⟨(by decide), _, _, _, rfl, rfl, rfl⟩ rfl (Nat.le_of_ble_eq_true rfl) ⟨Nat.le_of_ble_eq_true rfl, Nat.le_of_ble_eq_true rfl⟩ dX3_layerIfShown_2 ?_
  rintro _ _ ⟨rfl, rfl⟩
  refine g_iconst hB (-1) dX3_layerIfShown_5 rfl ?_
  refine g_icmp_ne hB 13 dX3_layerIfShown_6 (by decide) (fun c_6 => ?_) (fun c_6 => ?_)
  · have e : decide (vsh S k = -1) = false := decide_eq_false c_6
    refine g_aload_n hB 0 dX3_layerIfShown_13 rfl rfl ?_
    refine g_get (ci := 3) (T := TX3) (N := 4) hB in_X3 rfl 15 0 1 (by decide) (by decide) rfl tw_fl_X3_15 rfl dX3_layerIfShown_14 ?_
    refine g_iload_n hB 1 dX3_layerIfShown_17 rfl rfl ?_
    refine g_iald hB 16 1 k (n := 6) (by decide) rfl (by first | assumption | omega) (Nat.le_of_ble_eq_true rfl) dX3_layerIfShown_18 ?_
    exact g_iret hB hr rfl (Nat.le_of_ble_eq_true rfl) (Nat.le_of_ble_eq_true rfl) (⟨by rw [e]; rfl, rfl⟩) dX3_layerIfShown_19
  · have e : decide (vsh S k = -1) = true := decide_eq_true c_6
    refine g_iconst hB (-1) dX3_layerIfShown_9 rfl ?_
    refine g_goto hB 19 dX3_layerIfShown_10 (by decide) ?_
    exact g_iret hB hr rfl (Nat.le_of_ble_eq_true rfl) (Nat.le_of_ble_eq_true rfl) (⟨by rw [e]; rfl, rfl⟩) dX3_layerIfShown_19
theorem cWh_in {S : Mem} {nc : Nat} {x : Int32} (h : cWh S nc x ≠ -1) : ∃ d, d < nc ∧ x = nI d := by
  cases hr : rgB x nc with
  | true => obtain ⟨d, h1, h2⟩ := rgB_t hr; exact ⟨d, h1, h2⟩
  | false => exact absurd (by unfold cWh; rw [hr]; rfl) h

theorem c_X5_decide_t (S : Mem) (nc : Nat) (hc : S 0 0 9 = nI nc) (hnc : nc ≤ 40) (i : Nat) (hi : i < 12) (L : List Nat) (hL : MK S i L) (k : Nat) (hk : k < 6) : CV l yX5_decide cX5_decide 8 none { frames := 2, cells := 0, slots := 0, locals := 43 } D ad CNT ca SR (SH ad ca S) [.ref (ad 0 0), .ref (ad 6 i), .ref (ad 20 i), .ref (ad 12 0), .int (nI k)] (PM ad ca (dkM S nc 8 i 14 0 L k)) := by
  refine CV.of _ RX5 (by decide +kernel) rfl (Nat.le_of_ble_eq_true rfl) ?_
  intro p9 e9 s9 m9 a9 b9 me9 c9 A9 hB hr hnm9
  have loop : ∀ (n j : Nat), L.length - j < n → j ≤ L.length → (∀ q, q < j → dkSt (cWh S nc (dkA S 8 i L k q)) = false) → G p9 l e9 { frames := 2, cells := 0, slots := 0, locals := 43 } s9 m9 a9 b9 me9 c9 D ad A9 8 (MQ b9 (va_Qv (PM ad ca (dkM S nc 8 i 14 0 L k)) (fun E' t => WW D ad CNT A9 E' t.heap) A9) a9 s9 0 0 A9) 0 0 CNT (SH ad ca (S)) 3 [(0, .ref (ad 0 0)), (1, .ref (ad 6 i)), (2, .ref (ad 20 i)), (3, .ref (ad 12 0)), (4, .int (nI k)), (5, .int (nI j))] [] := by
    intro n
    have hlen := hL.2.1
    induction n with
    | zero => intro j h1; omega
    | succ n ih =>
      intro j h1 h2 hbef
      refine g_iload hB 5 dX5_decide_3 rfl ?_
      refine g_aload_n hB 1 dX5_decide_5 rfl rfl ?_
      refine g_get (ci := 2) (T := TX2) (N := 6) hB in_X2 rfl 6 i 3 (show i < 12 by first | assumption | omega) (by decide) rfl tw_fl_X5_262 rfl dX5_decide_6 ?_
      refine g_top (nI (L.length)) (hL.1) ?_
      refine n_icmp_ge hB j (L.length) 81 dX5_decide_9 (by decide) (by omega) (by omega) (fun c_9 => ?_) (fun c_9 => ?_)
      · have ei : dkI S nc 8 i L k L.length = none := fstN_none.mpr (fun q hq => hbef q (by omega))
        exact g_vret hB hr (Nat.le_of_ble_eq_true rfl) (Nat.le_of_ble_eq_true rfl) (by unfold dkM; rw [ei]; rfl) dX5_decide_81
      · obtain ⟨ej, hsj⟩ := hL.2.2 j c_9
        refine g_aload_n hB 2 dX5_decide_12 rfl rfl ?_
        refine g_aload_n hB 1 dX5_decide_13 rfl rfl ?_
        refine g_iload hB 5 dX5_decide_14 rfl ?_
        refine g_iload hB 4 dX5_decide_16 rfl ?_
        refine g_callVI hB (c_X2_cellIn _ i hi L hL j c_9 k) k_X5_242 rfl yk_X2_cellIn ⟨Nat.le_of_ble_eq_true rfl, Nat.le_of_ble_eq_true rfl⟩ ⟨(show i < 12 by first | assumption | omega), _, _, _, rfl, rfl, rfl⟩ rfl (Nat.le_of_ble_eq_true rfl) ⟨Nat.le_of_ble_eq_true rfl, Nat.le_of_ble_eq_true rfl⟩ dX5_decide_18 ?_
        rintro _ _ ⟨rfl, rfl⟩
        refine g_callVI hB (c_X9_get8 _ i hi (L.getD j 0 * 6 + k) (by omega)) k_X5_223 rfl yk_X9_get ⟨Nat.le_of_ble_eq_true rfl, Nat.le_of_ble_eq_true rfl⟩ ⟨(show i < 12 by first | assumption | omega), _, _, _, rfl, rfl, rfl⟩ rfl (Nat.le_of_ble_eq_true rfl) ⟨Nat.le_of_ble_eq_true rfl, Nat.le_of_ble_eq_true rfl⟩ dX5_decide_21 ?_
        rintro _ _ ⟨rfl, rfl⟩
        refine g_top ((dkA S 8 i L k j)) (rfl) ?_
        refine g_istore hB 6 dX5_decide_24 (by decide) ?_
        refine g_aload_n hB 0 dX5_decide_26 rfl rfl ?_
        refine g_iload hB 6 dX5_decide_27 rfl ?_
        refine g_callVI hB (c_X5_whatIsToldBy _ _ nc hc hnc) k_X5_228 rfl yk_X5_whatIsToldBy ⟨Nat.le_of_ble_eq_true rfl, Nat.le_of_ble_eq_true rfl⟩ ⟨(by decide), _, _, _, rfl, rfl, rfl⟩ rfl (Nat.le_of_ble_eq_true rfl) ⟨Nat.le_of_ble_eq_true rfl, Nat.le_of_ble_eq_true rfl⟩ dX5_decide_29 ?_
        rintro _ _ ⟨rfl, rfl⟩
        refine g_istore hB 7 dX5_decide_32 (by decide) ?_
        refine g_iload hB 7 dX5_decide_34 rfl ?_
        refine g_bipush hB (nI 100) dX5_decide_36 rfl ?_
        refine g_icmp_ne hB 42 dX5_decide_38 (by decide) (fun c_38 => ?_) (fun c_38 => ?_)
        · refine g_iload hB 7 dX5_decide_42 rfl ?_
          refine g_iconst hB (-1) dX5_decide_44 rfl ?_
          refine g_icmp_eq hB 75 dX5_decide_45 (by decide) (fun c_45 => ?_) (fun c_45 => ?_)
          · refine g_iinc hB (nI (j + 1)) dX5_decide_75 rfl (nI_1 _) (by decide) ?_
            refine g_goto hB 3 dX5_decide_78 (by decide) ?_
            refine g_sub _ rfl (ih (j + 1) (by omega) (by omega) (fun q hq => ?_))
            rcases Nat.lt_or_ge q j with y | y
            · exact hbef q y
            · rw [show q = j by omega]; unfold dkSt; rw [c_45]; rfl
          · refine g_iload hB 7 dX5_decide_48 rfl ?_
            refine g_bipush hB (nI 101) dX5_decide_50 rfl ?_
            refine g_icmp_eq hB 75 dX5_decide_52 (by decide) (fun c_52 => ?_) (fun c_52 => ?_)
            · refine g_iinc hB (nI (j + 1)) dX5_decide_75 rfl (nI_1 _) (by decide) ?_
              refine g_goto hB 3 dX5_decide_78 (by decide) ?_
              refine g_sub _ rfl (ih (j + 1) (by omega) (by omega) (fun q hq => ?_))
              rcases Nat.lt_or_ge q j with y | y
              · exact hbef q y
              · rw [show q = j by omega]; unfold dkSt; rw [c_52]; rfl
            · obtain ⟨d, hd, ed⟩ := cWh_in c_45
              have ei : dkI S nc 8 i L k L.length = some j := fstN_some.mpr ⟨c_9, by unfold dkSt; rw [decide_eq_true c_45, decide_eq_true c_52]; rfl, hbef⟩
              refine g_aload_n hB 0 dX5_decide_55 rfl rfl ?_
              refine g_get (ci := 5) (T := TX5) (N := 16) hB in_X5 rfl 0 0 15 (by decide) (by decide) rfl tw_fl_X5_57 rfl dX5_decide_56 ?_
              refine g_iload hB 4 dX5_decide_59 rfl ?_
              refine g_iload hB 7 dX5_decide_61 rfl ?_
              refine g_iload hB 5 dX5_decide_63 rfl ?_
              refine g_aload_n hB 3 dX5_decide_65 rfl rfl ?_
              refine g_iload hB 6 dX5_decide_66 rfl ?_
              refine g_callVI hB (c_X1_rankOf _ 0 (by decide) _) k_X5_216 rfl yk_X1_rankOf ⟨Nat.le_of_ble_eq_true rfl, Nat.le_of_ble_eq_true rfl⟩ ⟨(by decide), _, _, _, rfl, rfl, rfl⟩ rfl (Nat.le_of_ble_eq_true rfl) ⟨Nat.le_of_ble_eq_true rfl, Nat.le_of_ble_eq_true rfl⟩ dX5_decide_68 ?_
              rintro _ _ ⟨rfl, rfl⟩
              refine g_top ((S 14 0 d)) ((congrArg (rkV S 0) ed).trans (rkV_n (by omega))) ?_
              refine g_callVV hB (c_X3_set _ k j _ _ hk) k_X5_345 rfl yk_X3_set ⟨Nat.le_of_ble_eq_true rfl, Nat.le_of_ble_eq_true rfl⟩ ⟨(by decide), _, _, _, rfl, rfl, rfl⟩ rfl (Nat.le_of_ble_eq_true rfl) ⟨Nat.le_of_ble_eq_true rfl, Nat.le_of_ble_eq_true rfl⟩ dX5_decide_71 ?_
              rintro _ rfl
              exact g_vret hB hr (Nat.le_of_ble_eq_true rfl) (Nat.le_of_ble_eq_true rfl) (by unfold dkM; rw [ei]; dsimp only; rw [decide_eq_false c_38, ed, ix_nI (by omega)]; rfl) dX5_decide_74
        · have e100 := c_38
          have ei : dkI S nc 8 i L k L.length = some j := fstN_some.mpr ⟨c_9, by rw [e100]; rfl, hbef⟩
          exact g_vret hB hr (Nat.le_of_ble_eq_true rfl) (Nat.le_of_ble_eq_true rfl) (by unfold dkM; rw [ei]; dsimp only; rw [decide_eq_true e100]; rfl) dX5_decide_41
  refine g_iconst hB (nI 0) dX5_decide_0 rfl ?_
  refine g_istore hB 5 dX5_decide_1 (by decide) ?_
  exact g_sub _ rfl (loop (L.length + 1) 0 (by omega) (by omega) (fun k hk => by omega))

theorem c_X5_decide_h (S : Mem) (nc : Nat) (hc : S 0 0 9 = nI nc) (hnc : nc ≤ 40) (i : Nat) (hi : i < 12) (L : List Nat) (hL : MK S i L) (k : Nat) (hk : k < 6) : CV l yX5_decide cX5_decide 8 none { frames := 2, cells := 0, slots := 0, locals := 43 } D ad CNT ca SR (SH ad ca S) [.ref (ad 0 0), .ref (ad 6 i), .ref (ad 21 0), .ref (ad 12 0), .int (nI k)] (PM ad ca (dkM S nc 13 0 14 0 L k)) := by
  refine CV.of _ RX5 (by decide +kernel) rfl (Nat.le_of_ble_eq_true rfl) ?_
  intro p9 e9 s9 m9 a9 b9 me9 c9 A9 hB hr hnm9
  have loop : ∀ (n j : Nat), L.length - j < n → j ≤ L.length → (∀ q, q < j → dkSt (cWh S nc (dkA S 13 0 L k q)) = false) → G p9 l e9 { frames := 2, cells := 0, slots := 0, locals := 43 } s9 m9 a9 b9 me9 c9 D ad A9 8 (MQ b9 (va_Qv (PM ad ca (dkM S nc 13 0 14 0 L k)) (fun E' t => WW D ad CNT A9 E' t.heap) A9) a9 s9 0 0 A9) 0 0 CNT (SH ad ca (S)) 3 [(0, .ref (ad 0 0)), (1, .ref (ad 6 i)), (2, .ref (ad 21 0)), (3, .ref (ad 12 0)), (4, .int (nI k)), (5, .int (nI j))] [] := by
    intro n
    have hlen := hL.2.1
    induction n with
    | zero => intro j h1; omega
    | succ n ih =>
      intro j h1 h2 hbef
      refine g_iload hB 5 dX5_decide_3 rfl ?_
      refine g_aload_n hB 1 dX5_decide_5 rfl rfl ?_
      refine g_get (ci := 2) (T := TX2) (N := 6) hB in_X2 rfl 6 i 3 (show i < 12 by first | assumption | omega) (by decide) rfl tw_fl_X5_262 rfl dX5_decide_6 ?_
      refine g_top (nI (L.length)) (hL.1) ?_
      refine n_icmp_ge hB j (L.length) 81 dX5_decide_9 (by decide) (by omega) (by omega) (fun c_9 => ?_) (fun c_9 => ?_)
      · have ei : dkI S nc 13 0 L k L.length = none := fstN_none.mpr (fun q hq => hbef q (by omega))
        exact g_vret hB hr (Nat.le_of_ble_eq_true rfl) (Nat.le_of_ble_eq_true rfl) (by unfold dkM; rw [ei]; rfl) dX5_decide_81
      · obtain ⟨ej, hsj⟩ := hL.2.2 j c_9
        refine g_aload_n hB 2 dX5_decide_12 rfl rfl ?_
        refine g_aload_n hB 1 dX5_decide_13 rfl rfl ?_
        refine g_iload hB 5 dX5_decide_14 rfl ?_
        refine g_iload hB 4 dX5_decide_16 rfl ?_
        refine g_callVI hB (c_X2_cellIn _ i hi L hL j c_9 k) k_X5_242 rfl yk_X2_cellIn ⟨Nat.le_of_ble_eq_true rfl, Nat.le_of_ble_eq_true rfl⟩ ⟨(show i < 12 by first | assumption | omega), _, _, _, rfl, rfl, rfl⟩ rfl (Nat.le_of_ble_eq_true rfl) ⟨Nat.le_of_ble_eq_true rfl, Nat.le_of_ble_eq_true rfl⟩ dX5_decide_18 ?_
        rintro _ _ ⟨rfl, rfl⟩
        refine g_callVI hB (c_X9_get13 _ 0 (by decide) (L.getD j 0 * 6 + k) (by omega)) k_X5_223 rfl yk_X9_get ⟨Nat.le_of_ble_eq_true rfl, Nat.le_of_ble_eq_true rfl⟩ ⟨(by decide), _, _, _, rfl, rfl, rfl⟩ rfl (Nat.le_of_ble_eq_true rfl) ⟨Nat.le_of_ble_eq_true rfl, Nat.le_of_ble_eq_true rfl⟩ dX5_decide_21 ?_
        rintro _ _ ⟨rfl, rfl⟩
        refine g_top ((dkA S 13 0 L k j)) (rfl) ?_
        refine g_istore hB 6 dX5_decide_24 (by decide) ?_
        refine g_aload_n hB 0 dX5_decide_26 rfl rfl ?_
        refine g_iload hB 6 dX5_decide_27 rfl ?_
        refine g_callVI hB (c_X5_whatIsToldBy _ _ nc hc hnc) k_X5_228 rfl yk_X5_whatIsToldBy ⟨Nat.le_of_ble_eq_true rfl, Nat.le_of_ble_eq_true rfl⟩ ⟨(by decide), _, _, _, rfl, rfl, rfl⟩ rfl (Nat.le_of_ble_eq_true rfl) ⟨Nat.le_of_ble_eq_true rfl, Nat.le_of_ble_eq_true rfl⟩ dX5_decide_29 ?_
        rintro _ _ ⟨rfl, rfl⟩
        refine g_istore hB 7 dX5_decide_32 (by decide) ?_
        refine g_iload hB 7 dX5_decide_34 rfl ?_
        refine g_bipush hB (nI 100) dX5_decide_36 rfl ?_
        refine g_icmp_ne hB 42 dX5_decide_38 (by decide) (fun c_38 => ?_) (fun c_38 => ?_)
        · refine g_iload hB 7 dX5_decide_42 rfl ?_
          refine g_iconst hB (-1) dX5_decide_44 rfl ?_
          refine g_icmp_eq hB 75 dX5_decide_45 (by decide) (fun c_45 => ?_) (fun c_45 => ?_)
          · refine g_iinc hB (nI (j + 1)) dX5_decide_75 rfl (nI_1 _) (by decide) ?_
            refine g_goto hB 3 dX5_decide_78 (by decide) ?_
            refine g_sub _ rfl (ih (j + 1) (by omega) (by omega) (fun q hq => ?_))
            rcases Nat.lt_or_ge q j with y | y
            · exact hbef q y
            · rw [show q = j by omega]; unfold dkSt; rw [c_45]; rfl
          · refine g_iload hB 7 dX5_decide_48 rfl ?_
            refine g_bipush hB (nI 101) dX5_decide_50 rfl ?_
            refine g_icmp_eq hB 75 dX5_decide_52 (by decide) (fun c_52 => ?_) (fun c_52 => ?_)
            · refine g_iinc hB (nI (j + 1)) dX5_decide_75 rfl (nI_1 _) (by decide) ?_
              refine g_goto hB 3 dX5_decide_78 (by decide) ?_
              refine g_sub _ rfl (ih (j + 1) (by omega) (by omega) (fun q hq => ?_))
              rcases Nat.lt_or_ge q j with y | y
              · exact hbef q y
              · rw [show q = j by omega]; unfold dkSt; rw [c_52]; rfl
            · obtain ⟨d, hd, ed⟩ := cWh_in c_45
              have ei : dkI S nc 13 0 L k L.length = some j := fstN_some.mpr ⟨c_9, by unfold dkSt; rw [decide_eq_true c_45, decide_eq_true c_52]; rfl, hbef⟩
              refine g_aload_n hB 0 dX5_decide_55 rfl rfl ?_
              refine g_get (ci := 5) (T := TX5) (N := 16) hB in_X5 rfl 0 0 15 (by decide) (by decide) rfl tw_fl_X5_57 rfl dX5_decide_56 ?_
              refine g_iload hB 4 dX5_decide_59 rfl ?_
              refine g_iload hB 7 dX5_decide_61 rfl ?_
              refine g_iload hB 5 dX5_decide_63 rfl ?_
              refine g_aload_n hB 3 dX5_decide_65 rfl rfl ?_
              refine g_iload hB 6 dX5_decide_66 rfl ?_
              refine g_callVI hB (c_X1_rankOf _ 0 (by decide) _) k_X5_216 rfl yk_X1_rankOf ⟨Nat.le_of_ble_eq_true rfl, Nat.le_of_ble_eq_true rfl⟩ ⟨(by decide), _, _, _, rfl, rfl, rfl⟩ rfl (Nat.le_of_ble_eq_true rfl) ⟨Nat.le_of_ble_eq_true rfl, Nat.le_of_ble_eq_true rfl⟩ dX5_decide_68 ?_
              rintro _ _ ⟨rfl, rfl⟩
              refine g_top ((S 14 0 d)) ((congrArg (rkV S 0) ed).trans (rkV_n (by omega))) ?_
              refine g_callVV hB (c_X3_set _ k j _ _ hk) k_X5_345 rfl yk_X3_set ⟨Nat.le_of_ble_eq_true rfl, Nat.le_of_ble_eq_true rfl⟩ ⟨(by decide), _, _, _, rfl, rfl, rfl⟩ rfl (Nat.le_of_ble_eq_true rfl) ⟨Nat.le_of_ble_eq_true rfl, Nat.le_of_ble_eq_true rfl⟩ dX5_decide_71 ?_
              rintro _ rfl
              exact g_vret hB hr (Nat.le_of_ble_eq_true rfl) (Nat.le_of_ble_eq_true rfl) (by unfold dkM; rw [ei]; dsimp only; rw [decide_eq_false c_38, ed, ix_nI (by omega)]; rfl) dX5_decide_74
        · have e100 := c_38
          have ei : dkI S nc 13 0 L k L.length = some j := fstN_some.mpr ⟨c_9, by rw [e100]; rfl, hbef⟩
          exact g_vret hB hr (Nat.le_of_ble_eq_true rfl) (Nat.le_of_ble_eq_true rfl) (by unfold dkM; rw [ei]; dsimp only; rw [decide_eq_true e100]; rfl) dX5_decide_41
  refine g_iconst hB (nI 0) dX5_decide_0 rfl ?_
  refine g_istore hB 5 dX5_decide_1 (by decide) ?_
  exact g_sub _ rfl (loop (L.length + 1) 0 (by omega) (by omega) (fun k hk => by omega))

theorem c_X5_decide_a (S : Mem) (nc : Nat) (hc : S 0 0 9 = nI nc) (hnc : nc ≤ 40) (i : Nat) (hi : i < 12) (L : List Nat) (hL : MK S i L) (k : Nat) (hk : k < 6) : CV l yX5_decide cX5_decide 8 none { frames := 2, cells := 0, slots := 0, locals := 43 } D ad CNT ca SR (SH ad ca S) [.ref (ad 0 0), .ref (ad 6 i), .ref (ad 21 1), .ref (ad 12 1), .int (nI k)] (PM ad ca (dkM S nc 13 1 14 1 L k)) := by
  refine CV.of _ RX5 (by decide +kernel) rfl (Nat.le_of_ble_eq_true rfl) ?_
  intro p9 e9 s9 m9 a9 b9 me9 c9 A9 hB hr hnm9
  have loop : ∀ (n j : Nat), L.length - j < n → j ≤ L.length → (∀ q, q < j → dkSt (cWh S nc (dkA S 13 1 L k q)) = false) → G p9 l e9 { frames := 2, cells := 0, slots := 0, locals := 43 } s9 m9 a9 b9 me9 c9 D ad A9 8 (MQ b9 (va_Qv (PM ad ca (dkM S nc 13 1 14 1 L k)) (fun E' t => WW D ad CNT A9 E' t.heap) A9) a9 s9 0 0 A9) 0 0 CNT (SH ad ca (S)) 3 [(0, .ref (ad 0 0)), (1, .ref (ad 6 i)), (2, .ref (ad 21 1)), (3, .ref (ad 12 1)), (4, .int (nI k)), (5, .int (nI j))] [] := by
    intro n
    have hlen := hL.2.1
    induction n with
    | zero => intro j h1; omega
    | succ n ih =>
      intro j h1 h2 hbef
      refine g_iload hB 5 dX5_decide_3 rfl ?_
      refine g_aload_n hB 1 dX5_decide_5 rfl rfl ?_
      refine g_get (ci := 2) (T := TX2) (N := 6) hB in_X2 rfl 6 i 3 (show i < 12 by first | assumption | omega) (by decide) rfl tw_fl_X5_262 rfl dX5_decide_6 ?_
      refine g_top (nI (L.length)) (hL.1) ?_
      refine n_icmp_ge hB j (L.length) 81 dX5_decide_9 (by decide) (by omega) (by omega) (fun c_9 => ?_) (fun c_9 => ?_)
      · have ei : dkI S nc 13 1 L k L.length = none := fstN_none.mpr (fun q hq => hbef q (by omega))
        exact g_vret hB hr (Nat.le_of_ble_eq_true rfl) (Nat.le_of_ble_eq_true rfl) (by unfold dkM; rw [ei]; rfl) dX5_decide_81
      · obtain ⟨ej, hsj⟩ := hL.2.2 j c_9
        refine g_aload_n hB 2 dX5_decide_12 rfl rfl ?_
        refine g_aload_n hB 1 dX5_decide_13 rfl rfl ?_
        refine g_iload hB 5 dX5_decide_14 rfl ?_
        refine g_iload hB 4 dX5_decide_16 rfl ?_
        refine g_callVI hB (c_X2_cellIn _ i hi L hL j c_9 k) k_X5_242 rfl yk_X2_cellIn ⟨Nat.le_of_ble_eq_true rfl, Nat.le_of_ble_eq_true rfl⟩ ⟨(show i < 12 by first | assumption | omega), _, _, _, rfl, rfl, rfl⟩ rfl (Nat.le_of_ble_eq_true rfl) ⟨Nat.le_of_ble_eq_true rfl, Nat.le_of_ble_eq_true rfl⟩ dX5_decide_18 ?_
        rintro _ _ ⟨rfl, rfl⟩
        refine g_callVI hB (c_X9_get13 _ 1 (by decide) (L.getD j 0 * 6 + k) (by omega)) k_X5_223 rfl yk_X9_get ⟨Nat.le_of_ble_eq_true rfl, Nat.le_of_ble_eq_true rfl⟩ ⟨(by decide), _, _, _, rfl, rfl, rfl⟩ rfl (Nat.le_of_ble_eq_true rfl) ⟨Nat.le_of_ble_eq_true rfl, Nat.le_of_ble_eq_true rfl⟩ dX5_decide_21 ?_
        rintro _ _ ⟨rfl, rfl⟩
        refine g_top ((dkA S 13 1 L k j)) (rfl) ?_
        refine g_istore hB 6 dX5_decide_24 (by decide) ?_
        refine g_aload_n hB 0 dX5_decide_26 rfl rfl ?_
        refine g_iload hB 6 dX5_decide_27 rfl ?_
        refine g_callVI hB (c_X5_whatIsToldBy _ _ nc hc hnc) k_X5_228 rfl yk_X5_whatIsToldBy ⟨Nat.le_of_ble_eq_true rfl, Nat.le_of_ble_eq_true rfl⟩ ⟨(by decide), _, _, _, rfl, rfl, rfl⟩ rfl (Nat.le_of_ble_eq_true rfl) ⟨Nat.le_of_ble_eq_true rfl, Nat.le_of_ble_eq_true rfl⟩ dX5_decide_29 ?_
        rintro _ _ ⟨rfl, rfl⟩
        refine g_istore hB 7 dX5_decide_32 (by decide) ?_
        refine g_iload hB 7 dX5_decide_34 rfl ?_
        refine g_bipush hB (nI 100) dX5_decide_36 rfl ?_
        refine g_icmp_ne hB 42 dX5_decide_38 (by decide) (fun c_38 => ?_) (fun c_38 => ?_)
        · refine g_iload hB 7 dX5_decide_42 rfl ?_
          refine g_iconst hB (-1) dX5_decide_44 rfl ?_
          refine g_icmp_eq hB 75 dX5_decide_45 (by decide) (fun c_45 => ?_) (fun c_45 => ?_)
          · refine g_iinc hB (nI (j + 1)) dX5_decide_75 rfl (nI_1 _) (by decide) ?_
            refine g_goto hB 3 dX5_decide_78 (by decide) ?_
            refine g_sub _ rfl (ih (j + 1) (by omega) (by omega) (fun q hq => ?_))
            rcases Nat.lt_or_ge q j with y | y
            · exact hbef q y
            · rw [show q = j by omega]; unfold dkSt; rw [c_45]; rfl
          · refine g_iload hB 7 dX5_decide_48 rfl ?_
            refine g_bipush hB (nI 101) dX5_decide_50 rfl ?_
            refine g_icmp_eq hB 75 dX5_decide_52 (by decide) (fun c_52 => ?_) (fun c_52 => ?_)
            · refine g_iinc hB (nI (j + 1)) dX5_decide_75 rfl (nI_1 _) (by decide) ?_
              refine g_goto hB 3 dX5_decide_78 (by decide) ?_
              refine g_sub _ rfl (ih (j + 1) (by omega) (by omega) (fun q hq => ?_))
              rcases Nat.lt_or_ge q j with y | y
              · exact hbef q y
              · rw [show q = j by omega]; unfold dkSt; rw [c_52]; rfl
            · obtain ⟨d, hd, ed⟩ := cWh_in c_45
              have ei : dkI S nc 13 1 L k L.length = some j := fstN_some.mpr ⟨c_9, by unfold dkSt; rw [decide_eq_true c_45, decide_eq_true c_52]; rfl, hbef⟩
              refine g_aload_n hB 0 dX5_decide_55 rfl rfl ?_
              refine g_get (ci := 5) (T := TX5) (N := 16) hB in_X5 rfl 0 0 15 (by decide) (by decide) rfl tw_fl_X5_57 rfl dX5_decide_56 ?_
              refine g_iload hB 4 dX5_decide_59 rfl ?_
              refine g_iload hB 7 dX5_decide_61 rfl ?_
              refine g_iload hB 5 dX5_decide_63 rfl ?_
              refine g_aload_n hB 3 dX5_decide_65 rfl rfl ?_
              refine g_iload hB 6 dX5_decide_66 rfl ?_
              refine g_callVI hB (c_X1_rankOf _ 1 (by decide) _) k_X5_216 rfl yk_X1_rankOf ⟨Nat.le_of_ble_eq_true rfl, Nat.le_of_ble_eq_true rfl⟩ ⟨(by decide), _, _, _, rfl, rfl, rfl⟩ rfl (Nat.le_of_ble_eq_true rfl) ⟨Nat.le_of_ble_eq_true rfl, Nat.le_of_ble_eq_true rfl⟩ dX5_decide_68 ?_
              rintro _ _ ⟨rfl, rfl⟩
              refine g_top ((S 14 1 d)) ((congrArg (rkV S 1) ed).trans (rkV_n (by omega))) ?_
              refine g_callVV hB (c_X3_set _ k j _ _ hk) k_X5_345 rfl yk_X3_set ⟨Nat.le_of_ble_eq_true rfl, Nat.le_of_ble_eq_true rfl⟩ ⟨(by decide), _, _, _, rfl, rfl, rfl⟩ rfl (Nat.le_of_ble_eq_true rfl) ⟨Nat.le_of_ble_eq_true rfl, Nat.le_of_ble_eq_true rfl⟩ dX5_decide_71 ?_
              rintro _ rfl
              exact g_vret hB hr (Nat.le_of_ble_eq_true rfl) (Nat.le_of_ble_eq_true rfl) (by unfold dkM; rw [ei]; dsimp only; rw [decide_eq_false c_38, ed, ix_nI (by omega)]; rfl) dX5_decide_74
        · have e100 := c_38
          have ei : dkI S nc 13 1 L k L.length = some j := fstN_some.mpr ⟨c_9, by rw [e100]; rfl, hbef⟩
          exact g_vret hB hr (Nat.le_of_ble_eq_true rfl) (Nat.le_of_ble_eq_true rfl) (by unfold dkM; rw [ei]; dsimp only; rw [decide_eq_true e100]; rfl) dX5_decide_41
  refine g_iconst hB (nI 0) dX5_decide_0 rfl ?_
  refine g_istore hB 5 dX5_decide_1 (by decide) ?_
  exact g_sub _ rfl (loop (L.length + 1) 0 (by omega) (by omega) (fun k hk => by omega))

theorem c_X5_findOutcome_t (S : Mem) (nc : Nat) (hc : S 0 0 9 = nI nc) (hnc : nc ≤ 40) (i : Nat) (hi : i < 12) (L : List Nat) (hL : MK S i L) : CV l yX5_findOutcome cX5_findOutcome 5 none { frames := 3, cells := 0, slots := 0, locals := 70 } D ad CNT ca SR (SH ad ca S) [.ref (ad 0 0), .ref (ad 6 i), .ref (ad 20 i), .ref (ad 12 0)] (PM ad ca (ouM S nc 8 i 14 0 L)) := by
  refine CV.of _ RX5 (by decide +kernel) rfl (Nat.le_of_ble_eq_true rfl) ?_
  intro p9 e9 s9 m9 a9 b9 me9 c9 A9 hB hr hnm9
  have loop : ∀ (n k : Nat), 6 - k < n → k ≤ 6 → G p9 l e9 { frames := 3, cells := 0, slots := 0, locals := 70 } s9 m9 a9 b9 me9 c9 D ad A9 5 (MQ b9 (va_Qv (PM ad ca (ouM S nc 8 i 14 0 L)) (fun E' t => WW D ad CNT A9 E' t.heap) A9) a9 s9 0 0 A9) 0 0 CNT (SH ad ca (foM S nc 8 i 14 0 L k)) 10 [(0, .ref (ad 0 0)), (1, .ref (ad 6 i)), (2, .ref (ad 20 i)), (3, .ref (ad 12 0)), (4, .int (nI k))] [] := by
    intro n
    induction n with
    | zero => intro k h1; omega
    | succ n ih =>
      intro k h1 h2
      refine g_iload hB 4 dX5_findOutcome_10 rfl ?_
      refine g_bipush hB (nI 6) dX5_findOutcome_12 rfl ?_
      refine n_icmp_ge hB k 6 32 dX5_findOutcome_14 (by decide) (by omega) (by omega) (fun c_14 => ?_) (fun c_14 => ?_)
      · have hk : k = 6 := by omega
        subst hk
        refine g_aload_n hB 0 dX5_findOutcome_32 rfl rfl ?_
        refine g_get (ci := 5) (T := TX5) (N := 16) hB in_X5 rfl 0 0 15 (by decide) (by decide) rfl tw_fl_X5_57 rfl dX5_findOutcome_33 ?_
        refine g_aload_n hB 0 dX5_findOutcome_36 rfl rfl ?_
        refine g_get (ci := 5) (T := TX5) (N := 16) hB in_X5 rfl 0 0 12 (by decide) (by decide) rfl tw_fl_X5_41 rfl dX5_findOutcome_37 ?_
        refine g_callVV hB (c_X3_hideExcluded _) k_X5_341 rfl yk_X3_hideExcluded ⟨Nat.le_of_ble_eq_true rfl, Nat.le_of_ble_eq_true rfl⟩ ⟨(by decide), _, _, _, rfl, rfl, rfl⟩ rfl (Nat.le_of_ble_eq_true rfl) ⟨Nat.le_of_ble_eq_true rfl, Nat.le_of_ble_eq_true rfl⟩ dX5_findOutcome_40 ?_
        rintro _ rfl
        exact g_vret hB hr (Nat.le_of_ble_eq_true rfl) (Nat.le_of_ble_eq_true rfl) (rfl) dX5_findOutcome_43
      · refine g_aload_n hB 0 dX5_findOutcome_17 rfl rfl ?_
        refine g_aload_n hB 1 dX5_findOutcome_18 rfl rfl ?_
        refine g_aload_n hB 2 dX5_findOutcome_19 rfl rfl ?_
        refine g_aload_n hB 3 dX5_findOutcome_20 rfl rfl ?_
        refine g_iload hB 4 dX5_findOutcome_21 rfl ?_
        refine g_callVV hB (c_X5_decide_t _ nc (by rw [foM_fr (by decide) (by decide)]; exact hc) hnc i hi L (MK_fr (foM_fr (by decide) (by decide) k) (foM_fr (by decide) (by decide) k) hL) k c_14) k_X5_337 rfl yk_X5_decide ⟨Nat.le_of_ble_eq_true rfl, Nat.le_of_ble_eq_true rfl⟩ ⟨(by decide), _, _, _, rfl, rfl, rfl⟩ rfl (Nat.le_of_ble_eq_true rfl) ⟨Nat.le_of_ble_eq_true rfl, Nat.le_of_ble_eq_true rfl⟩ dX5_findOutcome_23 ?_
        rintro _ rfl
        refine g_iinc hB (nI (k + 1)) dX5_findOutcome_26 rfl (nI_1 _) (by decide) ?_
        refine g_goto hB 10 dX5_findOutcome_29 (by decide) ?_
        exact g_sub _ rfl (ih (k + 1) (by omega) (by omega))
  refine g_aload_n hB 0 dX5_findOutcome_0 rfl rfl ?_
  refine g_get (ci := 5) (T := TX5) (N := 16) hB in_X5 rfl 0 0 15 (by decide) (by decide) rfl tw_fl_X5_57 rfl dX5_findOutcome_1 ?_
  refine g_callVV hB (c_X3_forget _) k_X5_334 rfl yk_X3_forget ⟨Nat.le_of_ble_eq_true rfl, Nat.le_of_ble_eq_true rfl⟩ ⟨(by decide), _, _, _, rfl, rfl, rfl⟩ rfl (Nat.le_of_ble_eq_true rfl) ⟨Nat.le_of_ble_eq_true rfl, Nat.le_of_ble_eq_true rfl⟩ dX5_findOutcome_4 ?_
  rintro _ rfl
  refine g_iconst hB (nI 0) dX5_findOutcome_7 rfl ?_
  refine g_istore hB 4 dX5_findOutcome_8 (by decide) ?_
  exact g_sub _ rfl (loop 7 0 (by omega) (by omega))

theorem c_X5_findOutcome_h (S : Mem) (nc : Nat) (hc : S 0 0 9 = nI nc) (hnc : nc ≤ 40) (i : Nat) (hi : i < 12) (L : List Nat) (hL : MK S i L) : CV l yX5_findOutcome cX5_findOutcome 5 none { frames := 3, cells := 0, slots := 0, locals := 70 } D ad CNT ca SR (SH ad ca S) [.ref (ad 0 0), .ref (ad 6 i), .ref (ad 21 0), .ref (ad 12 0)] (PM ad ca (ouM S nc 13 0 14 0 L)) := by
  refine CV.of _ RX5 (by decide +kernel) rfl (Nat.le_of_ble_eq_true rfl) ?_
  intro p9 e9 s9 m9 a9 b9 me9 c9 A9 hB hr hnm9
  have loop : ∀ (n k : Nat), 6 - k < n → k ≤ 6 → G p9 l e9 { frames := 3, cells := 0, slots := 0, locals := 70 } s9 m9 a9 b9 me9 c9 D ad A9 5 (MQ b9 (va_Qv (PM ad ca (ouM S nc 13 0 14 0 L)) (fun E' t => WW D ad CNT A9 E' t.heap) A9) a9 s9 0 0 A9) 0 0 CNT (SH ad ca (foM S nc 13 0 14 0 L k)) 10 [(0, .ref (ad 0 0)), (1, .ref (ad 6 i)), (2, .ref (ad 21 0)), (3, .ref (ad 12 0)), (4, .int (nI k))] [] := by
    intro n
    induction n with
    | zero => intro k h1; omega
    | succ n ih =>
      intro k h1 h2
      refine g_iload hB 4 dX5_findOutcome_10 rfl ?_
      refine g_bipush hB (nI 6) dX5_findOutcome_12 rfl ?_
      refine n_icmp_ge hB k 6 32 dX5_findOutcome_14 (by decide) (by omega) (by omega) (fun c_14 => ?_) (fun c_14 => ?_)
      · have hk : k = 6 := by omega
        subst hk
        refine g_aload_n hB 0 dX5_findOutcome_32 rfl rfl ?_
        refine g_get (ci := 5) (T := TX5) (N := 16) hB in_X5 rfl 0 0 15 (by decide) (by decide) rfl tw_fl_X5_57 rfl dX5_findOutcome_33 ?_
        refine g_aload_n hB 0 dX5_findOutcome_36 rfl rfl ?_
        refine g_get (ci := 5) (T := TX5) (N := 16) hB in_X5 rfl 0 0 12 (by decide) (by decide) rfl tw_fl_X5_41 rfl dX5_findOutcome_37 ?_
        refine g_callVV hB (c_X3_hideExcluded _) k_X5_341 rfl yk_X3_hideExcluded ⟨Nat.le_of_ble_eq_true rfl, Nat.le_of_ble_eq_true rfl⟩ ⟨(by decide), _, _, _, rfl, rfl, rfl⟩ rfl (Nat.le_of_ble_eq_true rfl) ⟨Nat.le_of_ble_eq_true rfl, Nat.le_of_ble_eq_true rfl⟩ dX5_findOutcome_40 ?_
        rintro _ rfl
        exact g_vret hB hr (Nat.le_of_ble_eq_true rfl) (Nat.le_of_ble_eq_true rfl) (rfl) dX5_findOutcome_43
      · refine g_aload_n hB 0 dX5_findOutcome_17 rfl rfl ?_
        refine g_aload_n hB 1 dX5_findOutcome_18 rfl rfl ?_
        refine g_aload_n hB 2 dX5_findOutcome_19 rfl rfl ?_
        refine g_aload_n hB 3 dX5_findOutcome_20 rfl rfl ?_
        refine g_iload hB 4 dX5_findOutcome_21 rfl ?_
        refine g_callVV hB (c_X5_decide_h _ nc (by rw [foM_fr (by decide) (by decide)]; exact hc) hnc i hi L (MK_fr (foM_fr (by decide) (by decide) k) (foM_fr (by decide) (by decide) k) hL) k c_14) k_X5_337 rfl yk_X5_decide ⟨Nat.le_of_ble_eq_true rfl, Nat.le_of_ble_eq_true rfl⟩ ⟨(by decide), _, _, _, rfl, rfl, rfl⟩ rfl (Nat.le_of_ble_eq_true rfl) ⟨Nat.le_of_ble_eq_true rfl, Nat.le_of_ble_eq_true rfl⟩ dX5_findOutcome_23 ?_
        rintro _ rfl
        refine g_iinc hB (nI (k + 1)) dX5_findOutcome_26 rfl (nI_1 _) (by decide) ?_
        refine g_goto hB 10 dX5_findOutcome_29 (by decide) ?_
        exact g_sub _ rfl (ih (k + 1) (by omega) (by omega))
  refine g_aload_n hB 0 dX5_findOutcome_0 rfl rfl ?_
  refine g_get (ci := 5) (T := TX5) (N := 16) hB in_X5 rfl 0 0 15 (by decide) (by decide) rfl tw_fl_X5_57 rfl dX5_findOutcome_1 ?_
  refine g_callVV hB (c_X3_forget _) k_X5_334 rfl yk_X3_forget ⟨Nat.le_of_ble_eq_true rfl, Nat.le_of_ble_eq_true rfl⟩ ⟨(by decide), _, _, _, rfl, rfl, rfl⟩ rfl (Nat.le_of_ble_eq_true rfl) ⟨Nat.le_of_ble_eq_true rfl, Nat.le_of_ble_eq_true rfl⟩ dX5_findOutcome_4 ?_
  rintro _ rfl
  refine g_iconst hB (nI 0) dX5_findOutcome_7 rfl ?_
  refine g_istore hB 4 dX5_findOutcome_8 (by decide) ?_
  exact g_sub _ rfl (loop 7 0 (by omega) (by omega))

theorem c_X5_findOutcome_a (S : Mem) (nc : Nat) (hc : S 0 0 9 = nI nc) (hnc : nc ≤ 40) (i : Nat) (hi : i < 12) (L : List Nat) (hL : MK S i L) : CV l yX5_findOutcome cX5_findOutcome 5 none { frames := 3, cells := 0, slots := 0, locals := 70 } D ad CNT ca SR (SH ad ca S) [.ref (ad 0 0), .ref (ad 6 i), .ref (ad 21 1), .ref (ad 12 1)] (PM ad ca (ouM S nc 13 1 14 1 L)) := by
  refine CV.of _ RX5 (by decide +kernel) rfl (Nat.le_of_ble_eq_true rfl) ?_
  intro p9 e9 s9 m9 a9 b9 me9 c9 A9 hB hr hnm9
  have loop : ∀ (n k : Nat), 6 - k < n → k ≤ 6 → G p9 l e9 { frames := 3, cells := 0, slots := 0, locals := 70 } s9 m9 a9 b9 me9 c9 D ad A9 5 (MQ b9 (va_Qv (PM ad ca (ouM S nc 13 1 14 1 L)) (fun E' t => WW D ad CNT A9 E' t.heap) A9) a9 s9 0 0 A9) 0 0 CNT (SH ad ca (foM S nc 13 1 14 1 L k)) 10 [(0, .ref (ad 0 0)), (1, .ref (ad 6 i)), (2, .ref (ad 21 1)), (3, .ref (ad 12 1)), (4, .int (nI k))] [] := by
    intro n
    induction n with
    | zero => intro k h1; omega
    | succ n ih =>
      intro k h1 h2
      refine g_iload hB 4 dX5_findOutcome_10 rfl ?_
      refine g_bipush hB (nI 6) dX5_findOutcome_12 rfl ?_
      refine n_icmp_ge hB k 6 32 dX5_findOutcome_14 (by decide) (by omega) (by omega) (fun c_14 => ?_) (fun c_14 => ?_)
      · have hk : k = 6 := by omega
        subst hk
        refine g_aload_n hB 0 dX5_findOutcome_32 rfl rfl ?_
        refine g_get (ci := 5) (T := TX5) (N := 16) hB in_X5 rfl 0 0 15 (by decide) (by decide) rfl tw_fl_X5_57 rfl dX5_findOutcome_33 ?_
        refine g_aload_n hB 0 dX5_findOutcome_36 rfl rfl ?_
        refine g_get (ci := 5) (T := TX5) (N := 16) hB in_X5 rfl 0 0 12 (by decide) (by decide) rfl tw_fl_X5_41 rfl dX5_findOutcome_37 ?_
        refine g_callVV hB (c_X3_hideExcluded _) k_X5_341 rfl yk_X3_hideExcluded ⟨Nat.le_of_ble_eq_true rfl, Nat.le_of_ble_eq_true rfl⟩ ⟨(by decide), _, _, _, rfl, rfl, rfl⟩ rfl (Nat.le_of_ble_eq_true rfl) ⟨Nat.le_of_ble_eq_true rfl, Nat.le_of_ble_eq_true rfl⟩ dX5_findOutcome_40 ?_
        rintro _ rfl
        exact g_vret hB hr (Nat.le_of_ble_eq_true rfl) (Nat.le_of_ble_eq_true rfl) (rfl) dX5_findOutcome_43
      · refine g_aload_n hB 0 dX5_findOutcome_17 rfl rfl ?_
        refine g_aload_n hB 1 dX5_findOutcome_18 rfl rfl ?_
        refine g_aload_n hB 2 dX5_findOutcome_19 rfl rfl ?_
        refine g_aload_n hB 3 dX5_findOutcome_20 rfl rfl ?_
        refine g_iload hB 4 dX5_findOutcome_21 rfl ?_
        refine g_callVV hB (c_X5_decide_a _ nc (by rw [foM_fr (by decide) (by decide)]; exact hc) hnc i hi L (MK_fr (foM_fr (by decide) (by decide) k) (foM_fr (by decide) (by decide) k) hL) k c_14) k_X5_337 rfl yk_X5_decide ⟨Nat.le_of_ble_eq_true rfl, Nat.le_of_ble_eq_true rfl⟩ ⟨(by decide), _, _, _, rfl, rfl, rfl⟩ rfl (Nat.le_of_ble_eq_true rfl) ⟨Nat.le_of_ble_eq_true rfl, Nat.le_of_ble_eq_true rfl⟩ dX5_findOutcome_23 ?_
        rintro _ rfl
        refine g_iinc hB (nI (k + 1)) dX5_findOutcome_26 rfl (nI_1 _) (by decide) ?_
        refine g_goto hB 10 dX5_findOutcome_29 (by decide) ?_
        exact g_sub _ rfl (ih (k + 1) (by omega) (by omega))
  refine g_aload_n hB 0 dX5_findOutcome_0 rfl rfl ?_
  refine g_get (ci := 5) (T := TX5) (N := 16) hB in_X5 rfl 0 0 15 (by decide) (by decide) rfl tw_fl_X5_57 rfl dX5_findOutcome_1 ?_
  refine g_callVV hB (c_X3_forget _) k_X5_334 rfl yk_X3_forget ⟨Nat.le_of_ble_eq_true rfl, Nat.le_of_ble_eq_true rfl⟩ ⟨(by decide), _, _, _, rfl, rfl, rfl⟩ rfl (Nat.le_of_ble_eq_true rfl) ⟨Nat.le_of_ble_eq_true rfl, Nat.le_of_ble_eq_true rfl⟩ dX5_findOutcome_4 ?_
  rintro _ rfl
  refine g_iconst hB (nI 0) dX5_findOutcome_7 rfl ?_
  refine g_istore hB 4 dX5_findOutcome_8 (by decide) ?_
  exact g_sub _ rfl (loop 7 0 (by omega) (by omega))

theorem c_X5_findRunning (S : Mem) (nc : Nat) (hc : S 0 0 9 = nI nc) (hnc : nc ≤ 40) (i : Nat) (hi : i < 12) (L : List Nat) (hL : MK S i L) : CV l yX5_findRunning cX5_findRunning 2 none { frames := 4, cells := 0, slots := 0, locals := 94 } D ad CNT ca SR (SH ad ca S) [.ref (ad 0 0), .ref (ad 6 i)] (PM ad ca (match cNear S nc i L with | none => ouM S nc 8 i 14 0 L | some _ => ogM S)) := by
  have hlen := hL.2.1
  refine CV.of _ RX5 (by decide +kernel) rfl (Nat.le_of_ble_eq_true rfl) ?_
  intro p9 e9 s9 m9 a9 b9 me9 c9 A9 hB hr hnm9
  refine g_aload_n hB 0 dX5_findRunning_0 rfl rfl ?_
  refine g_aload_n hB 1 dX5_findRunning_1 rfl rfl ?_
  refine g_callVI hB (c_X5_nearestLayerNotHeld _ nc hc hnc i hi L hL) k_X5_147 rfl yk_X5_nearestLayerNotHeld ⟨Nat.le_of_ble_eq_true rfl, Nat.le_of_ble_eq_true rfl⟩ ⟨(by decide), _, _, _, rfl, rfl, rfl⟩ rfl (Nat.le_of_ble_eq_true rfl) ⟨Nat.le_of_ble_eq_true rfl, Nat.le_of_ble_eq_true rfl⟩ dX5_findRunning_2 ?_
  rintro _ _ ⟨rfl, rfl⟩
  refine g_iconst hB (-1) dX5_findRunning_5 rfl ?_
  refine g_icmp_eq hB 19 dX5_findRunning_6 (by decide) (fun c_6 => ?_) (fun c_6 => ?_)
  · have e : cNear S nc i L = none := (oI_m1 (fun c hc => by have := (fstN_some.mp hc).1; omega)).mp c_6
    refine g_aload_n hB 0 dX5_findRunning_19 rfl rfl ?_
    refine g_aload_n hB 1 dX5_findRunning_20 rfl rfl ?_
    refine g_aload_n hB 1 dX5_findRunning_21 rfl rfl ?_
    refine g_get (ci := 2) (T := TX2) (N := 6) hB in_X2 rfl 6 i 4 (show i < 12 by first | assumption | omega) (by decide) rfl tw_fl_X5_239 rfl dX5_findRunning_22 ?_
    refine g_aload_n hB 0 dX5_findRunning_25 rfl rfl ?_
    refine g_get (ci := 5) (T := TX5) (N := 16) hB in_X5 rfl 0 0 13 (by decide) (by decide) rfl tw_fl_X5_47 rfl dX5_findRunning_26 ?_
    refine g_callVV hB (c_X5_findOutcome_t _ nc hc hnc i hi L hL) k_X5_255 rfl yk_X5_findOutcome ⟨Nat.le_of_ble_eq_true rfl, Nat.le_of_ble_eq_true rfl⟩ ⟨(by decide), _, _, _, rfl, rfl, rfl⟩ rfl (Nat.le_of_ble_eq_true rfl) ⟨Nat.le_of_ble_eq_true rfl, Nat.le_of_ble_eq_true rfl⟩ dX5_findRunning_29 ?_
    rintro _ rfl
    exact g_vret hB hr (Nat.le_of_ble_eq_true rfl) (Nat.le_of_ble_eq_true rfl) (by rw [e]; rfl) dX5_findRunning_32
  · obtain ⟨j, e⟩ : ∃ j, cNear S nc i L = some j := by
      cases hd : cNear S nc i L with
      | none => rw [hd] at c_6; exact absurd rfl c_6
      | some d => exact ⟨d, rfl⟩
    refine g_aload_n hB 0 dX5_findRunning_9 rfl rfl ?_
    refine g_get (ci := 5) (T := TX5) (N := 16) hB in_X5 rfl 0 0 15 (by decide) (by decide) rfl tw_fl_X5_57 rfl dX5_findRunning_10 ?_
    refine g_callVV hB (c_X3_forget _) k_X5_334 rfl yk_X3_forget ⟨Nat.le_of_ble_eq_true rfl, Nat.le_of_ble_eq_true rfl⟩ ⟨(by decide), _, _, _, rfl, rfl, rfl⟩ rfl (Nat.le_of_ble_eq_true rfl) ⟨Nat.le_of_ble_eq_true rfl, Nat.le_of_ble_eq_true rfl⟩ dX5_findRunning_13 ?_
    rintro _ rfl
    refine g_goto hB 32 dX5_findRunning_16 (by decide) ?_
    exact g_vret hB hr (Nat.le_of_ble_eq_true rfl) (Nat.le_of_ble_eq_true rfl) (by rw [e]; rfl) dX5_findRunning_32
end X4
