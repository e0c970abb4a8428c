/-! the class: what is due, found anew -/
section X5
variable {l : Launch} {D : va_G} {ad : Nat → Nat → Nat} {ca : Nat → ClassId} {SR : List (String × Nat × String)}
def cgB (S : Mem) (c : Nat) (a : Int32) (p : Nat) : Bool := (decide (S 11 c p ≠ -1) && decide (S 11 c p ≤ a)) && !(hvB S p (S 10 c p) && decide (S 5 p 3 < a))
def haP (S : Mem) (c p : Nat) : Bool := decide (S 11 c p ≠ -1) && !hvB S p (S 10 c p)
theorem c_X0_countGoodAt (S : Mem) (c : Nat) (hc40 : c < 40) (a : Int32) : CI l yX0_countGoodAt cX0_countGoodAt 7 (some .int) { frames := 1, cells := 0, slots := 0, locals := 21 } D ad CNT ca SR (SH ad ca S) [.ref (ad 9 c), .int (a), .ref (ad 2 0)] (PR ad ca (nI (cgN S c a)) S) := by
  refine CI.of _ RX0 (by decide +kernel) rfl (Nat.le_of_ble_eq_true rfl) ?_
  intro p9 e9 s9 m9 a9 b9 me9 c9 A9 hB hr hnm9
  have loop : ∀ (n p x : Nat), 8 - p < n → p ≤ 8 → x = cntB (cgB S c a) p → G p9 l e9 { frames := 1, cells := 0, slots := 0, locals := 21 } s9 m9 a9 b9 me9 c9 D ad A9 7 (MQ b9 (va_Qi (PR ad ca (nI (cgN S c a)) S) (fun E' t => WW D ad CNT A9 E' t.heap) A9) a9 s9 0 0 A9) 0 0 CNT (SH ad ca (S)) 5 [(0, .ref (ad 9 c)), (1, .int (a)), (2, .ref (ad 2 0)), (3, .int (nI x)), (4, .int (nI p))] [] := by
    intro n
    induction n with
    | zero => intro p x h1; omega
    | succ n ih =>
      intro p x h1 h2 hx
      have mid : p < 8 → ∀ (b1 b2 : Bool), cgB S c a p = (b1 && !b2) → G p9 l e9 { frames := 1, cells := 0, slots := 0, locals := 21 } s9 m9 a9 b9 me9 c9 D ad A9 7 (MQ b9 (va_Qi (PR ad ca (nI (cgN S c a)) S) (fun E' t => WW D ad CNT A9 E' t.heap) A9) a9 s9 0 0 A9) 0 0 CNT (SH ad ca (S)) 76 [(0, .ref (ad 9 c)), (1, .int (a)), (2, .ref (ad 2 0)), (3, .int (nI x)), (4, .int (nI p)), (5, .int (bI (b1))), (6, .int (bI (b2)))] [] := by
        intro hp b1 b2 hb
        refine g_iload hB 5 dX0_countGoodAt_76 rfl ?_
        refine b_if_eq hB (b1) 89 dX0_countGoodAt_78 (by decide) (fun c_78 => ?_) (fun c_78 => ?_)
        · have e : cgB S c a p = false := by rw [hb, c_78]; rfl
          refine g_iinc hB (nI (p + 1)) dX0_countGoodAt_89 rfl (nI_1 _) (by decide) ?_
          refine g_goto hB 5 dX0_countGoodAt_92 (by decide) ?_
          exact g_sub _ rfl (ih (p + 1) _ (by omega) (by omega) (by rw [cntB, ← hx, e]; rfl))
        · refine g_iload hB 6 dX0_countGoodAt_81 rfl ?_
          refine b_if_ne hB (b2) 89 dX0_countGoodAt_83 (by decide) (fun c_83 => ?_) (fun c_83 => ?_)
          · have e : cgB S c a p = false := by rw [hb, c_83, Bool.not_true, Bool.and_false]
            refine g_iinc hB (nI (p + 1)) dX0_countGoodAt_89 rfl (nI_1 _) (by decide) ?_
            refine g_goto hB 5 dX0_countGoodAt_92 (by decide) ?_
            exact g_sub _ rfl (ih (p + 1) _ (by omega) (by omega) (by rw [cntB, ← hx, e]; rfl))
          · have e : cgB S c a p = true := by rw [hb, c_78, c_83]; rfl
            refine g_iinc hB (nI (x + 1)) dX0_countGoodAt_86 rfl (nI_1 _) (by decide) ?_
            refine g_iinc hB (nI (p + 1)) dX0_countGoodAt_89 rfl (nI_1 _) (by decide) ?_
            refine g_goto hB 5 dX0_countGoodAt_92 (by decide) ?_
            exact g_sub _ rfl (ih (p + 1) _ (by omega) (by omega) (by rw [cntB, ← hx, e]; rfl))
      have m2 : p < 8 → ∀ (b1 : Bool), (decide (S 11 c p ≠ -1) && decide (S 11 c p ≤ a)) = b1 → G p9 l e9 { frames := 1, cells := 0, slots := 0, locals := 21 } s9 m9 a9 b9 me9 c9 D ad A9 7 (MQ b9 (va_Qi (PR ad ca (nI (cgN S c a)) S) (fun E' t => WW D ad CNT A9 E' t.heap) A9) a9 s9 0 0 A9) 0 0 CNT (SH ad ca (S)) 41 [(0, .ref (ad 9 c)), (1, .int (a)), (2, .ref (ad 2 0)), (3, .int (nI x)), (4, .int (nI p)), (5, .int (bI (b1)))] [] := by
        intro hp b1 hb
        refine g_aload_n hB 2 dX0_countGoodAt_41 rfl rfl ?_
        refine g_iload hB 4 dX0_countGoodAt_42 rfl ?_
        refine g_aald hB 2 0 p 1 (n := 8) (by decide) rfl rfl (by first | assumption | omega) (Nat.le_of_ble_eq_true rfl) rfl dX0_countGoodAt_44 ?_
        refine g_aload_n hB 0 dX0_countGoodAt_45 rfl rfl ?_
        refine g_get (ci := 0) (T := TX0) (N := 8) hB in_X0 rfl 9 c 6 (show c < 40 by first | assumption | omega) (by decide) rfl tw_fl_X0_15 rfl dX0_countGoodAt_46 ?_
        refine g_iload hB 4 dX0_countGoodAt_49 rfl ?_
        refine g_iald hB 10 c p (n := 8) (show c < 40 by first | assumption | omega) rfl (by first | assumption | omega) (Nat.le_of_ble_eq_true rfl) dX0_countGoodAt_51 ?_
        refine g_callVI hB (c_X4_hasVoided _ p _ hp) k_X0_65 rfl yk_X4_hasVoided ⟨Nat.le_of_ble_eq_true rfl, Nat.le_of_ble_eq_true rfl⟩ ⟨(show p < 8 by first | assumption | omega), _, _, _, rfl, rfl, rfl⟩ rfl (Nat.le_of_ble_eq_true rfl) ⟨Nat.le_of_ble_eq_true rfl, Nat.le_of_ble_eq_true rfl⟩ dX0_countGoodAt_52 ?_
        rintro _ _ ⟨rfl, rfl⟩
        refine b_if_eq hB (hvB S p (S 10 c p)) 73 dX0_countGoodAt_55 (by decide) (fun c_55 => ?_) (fun c_55 => ?_)
        · have e : (hvB S p (S 10 c p) && decide (S 5 p 3 < a)) = false := by rw [c_55]; rfl
          refine g_iconst hB (nI 0) dX0_countGoodAt_73 rfl ?_
          refine g_istore hB 6 dX0_countGoodAt_74 (by decide) ?_
          exact g_sub [(0, .ref (ad 9 c)), (1, .int a), (2, .ref (ad 2 0)), (3, .int (nI x)), (4, .int (nI p)), (5, .int (bI b1)), (6, .int (bI false))] rfl (mid hp b1 false (by unfold cgB; rw [hb, e]))
        · refine g_aload_n hB 2 dX0_countGoodAt_58 rfl rfl ?_
          refine g_iload hB 4 dX0_countGoodAt_59 rfl ?_
          refine g_aald hB 2 0 p 1 (n := 8) (by decide) rfl rfl (by first | assumption | omega) (Nat.le_of_ble_eq_true rfl) rfl dX0_countGoodAt_61 ?_
          refine g_get (ci := 4) (T := TX4) (N := 4) hB in_X4 rfl 5 p 3 (show p < 8 by first | assumption | omega) (by decide) rfl tw_fl_X0_75 rfl dX0_countGoodAt_62 ?_
          refine g_iload_n hB 1 dX0_countGoodAt_65 rfl rfl ?_
          refine g_icmp_ge hB 73 dX0_countGoodAt_66 (by decide) (fun c_66 => ?_) (fun c_66 => ?_)
          · have e : (hvB S p (S 10 c p) && decide (S 5 p 3 < a)) = false := by rw [decide_eq_false (Int32.not_lt.mpr c_66), Bool.and_false]
            refine g_iconst hB (nI 0) dX0_countGoodAt_73 rfl ?_
            refine g_istore hB 6 dX0_countGoodAt_74 (by decide) ?_
            exact g_sub [(0, .ref (ad 9 c)), (1, .int a), (2, .ref (ad 2 0)), (3, .int (nI x)), (4, .int (nI p)), (5, .int (bI b1)), (6, .int (bI false))] rfl (mid hp b1 false (by unfold cgB; rw [hb, e]))
          · have e : (hvB S p (S 10 c p) && decide (S 5 p 3 < a)) = true := by rw [c_55, decide_eq_true (Int32.not_le.mp c_66)]; rfl
            refine g_iconst hB (nI 1) dX0_countGoodAt_69 rfl ?_
            refine g_goto hB 74 dX0_countGoodAt_70 (by decide) ?_
            refine g_istore hB 6 dX0_countGoodAt_74 (by decide) ?_
            exact g_sub [(0, .ref (ad 9 c)), (1, .int a), (2, .ref (ad 2 0)), (3, .int (nI x)), (4, .int (nI p)), (5, .int (bI b1)), (6, .int (bI true))] rfl (mid hp b1 true (by unfold cgB; rw [hb, e]))
      refine g_iload hB 4 dX0_countGoodAt_5 rfl ?_
      refine g_bipush hB (nI 8) dX0_countGoodAt_7 rfl ?_
      refine n_icmp_ge hB p 8 95 dX0_countGoodAt_9 (by decide) (by omega) (by omega) (fun c_9 => ?_) (fun c_9 => ?_)
      · have hp : p = 8 := by omega
        subst hp
        refine g_iload_n hB 3 dX0_countGoodAt_95 rfl rfl ?_
        exact g_iret hB hr rfl (Nat.le_of_ble_eq_true rfl) (Nat.le_of_ble_eq_true rfl) (⟨by rw [hx]; rfl, rfl⟩) dX0_countGoodAt_96
      · refine g_aload_n hB 0 dX0_countGoodAt_12 rfl rfl ?_
        refine g_get (ci := 0) (T := TX0) (N := 8) hB in_X0 rfl 9 c 7 (show c < 40 by first | assumption | omega) (by decide) rfl tw_fl_X0_19 rfl dX0_countGoodAt_13 ?_
        refine g_iload hB 4 dX0_countGoodAt_16 rfl ?_
        refine g_iald hB 11 c p (n := 8) (show c < 40 by first | assumption | omega) rfl (by first | assumption | omega) (Nat.le_of_ble_eq_true rfl) dX0_countGoodAt_18 ?_
        refine g_iconst hB (-1) dX0_countGoodAt_19 rfl ?_
        refine g_icmp_eq hB 38 dX0_countGoodAt_20 (by decide) (fun c_20 => ?_) (fun c_20 => ?_)
        · have e : (decide (S 11 c p ≠ -1) && decide (S 11 c p ≤ a)) = false := by rw [decide_eq_false (fun z => z c_20)]; rfl
          refine g_iconst hB (nI 0) dX0_countGoodAt_38 rfl ?_
          refine g_istore hB 5 dX0_countGoodAt_39 (by decide) ?_
          exact g_sub [(0, .ref (ad 9 c)), (1, .int a), (2, .ref (ad 2 0)), (3, .int (nI x)), (4, .int (nI p)), (5, .int (bI false))] rfl (m2 c_9 false e)
        · refine g_aload_n hB 0 dX0_countGoodAt_23 rfl rfl ?_
          refine g_get (ci := 0) (T := TX0) (N := 8) hB in_X0 rfl 9 c 7 (show c < 40 by first | assumption | omega) (by decide) rfl tw_fl_X0_19 rfl dX0_countGoodAt_24 ?_
          refine g_iload hB 4 dX0_countGoodAt_27 rfl ?_
          refine g_iald hB 11 c p (n := 8) (show c < 40 by first | assumption | omega) rfl (by first | assumption | omega) (Nat.le_of_ble_eq_true rfl) dX0_countGoodAt_29 ?_
          refine g_iload_n hB 1 dX0_countGoodAt_30 rfl rfl ?_
          refine g_icmp_gt hB 38 dX0_countGoodAt_31 (by decide) (fun c_31 => ?_) (fun c_31 => ?_)
          · have e : (decide (S 11 c p ≠ -1) && decide (S 11 c p ≤ a)) = false := by rw [decide_eq_false (Int32.not_le.mpr c_31), Bool.and_false]
            refine g_iconst hB (nI 0) dX0_countGoodAt_38 rfl ?_
            refine g_istore hB 5 dX0_countGoodAt_39 (by decide) ?_
            exact g_sub [(0, .ref (ad 9 c)), (1, .int a), (2, .ref (ad 2 0)), (3, .int (nI x)), (4, .int (nI p)), (5, .int (bI false))] rfl (m2 c_9 false e)
          · have e : (decide (S 11 c p ≠ -1) && decide (S 11 c p ≤ a)) = true := by rw [decide_eq_true c_20, decide_eq_true (Int32.not_lt.mp c_31)]; rfl
            refine g_iconst hB (nI 1) dX0_countGoodAt_34 rfl ?_
            refine g_goto hB 39 dX0_countGoodAt_35 (by decide) ?_
            refine g_istore hB 5 dX0_countGoodAt_39 (by decide) ?_
            exact g_sub [(0, .ref (ad 9 c)), (1, .int a), (2, .ref (ad 2 0)), (3, .int (nI x)), (4, .int (nI p)), (5, .int (bI true))] rfl (m2 c_9 true e)
  refine g_iconst hB (nI 0) dX0_countGoodAt_0 rfl ?_
  refine g_istore_n hB 3 dX0_countGoodAt_1 rfl (by decide) ?_
  refine g_iconst hB (nI 0) dX0_countGoodAt_2 rfl ?_
  refine g_istore hB 4 dX0_countGoodAt_3 (by decide) ?_
  exact g_sub _ rfl (loop 9 0 0 (by omega) (by omega) rfl)
theorem c_X0_firstHeldMoment (S : Mem) (c : Nat) (hc40 : c < 40) : CI l yX0_firstHeldMoment cX0_firstHeldMoment 6 (some .int) { frames := 2, cells := 0, slots := 0, locals := 47 } D ad CNT ca SR (SH ad ca S) [.ref (ad 9 c), .ref (ad 2 0)] (PR ad ca (fh S c) S) := by
  refine CI.of _ RX0 (by decide +kernel) rfl (Nat.le_of_ble_eq_true rfl) ?_
  intro p9 e9 s9 m9 a9 b9 me9 c9 A9 hB hr hnm9
  have loop : ∀ (n p : Nat) (x : Int32), 8 - p < n → p ≤ 8 → x = fhF S c p → G p9 l e9 { frames := 2, cells := 0, slots := 0, locals := 47 } s9 m9 a9 b9 me9 c9 D ad A9 6 (MQ b9 (va_Qi (PR ad ca (fh S c) S) (fun E' t => WW D ad CNT A9 E' t.heap) A9) a9 s9 0 0 A9) 0 0 CNT (SH ad ca (S)) 4 [(0, .ref (ad 9 c)), (1, .ref (ad 2 0)), (2, .int (x)), (3, .int (nI p))] [] := by
    intro n
    induction n with
    | zero => intro p x h1; omega
    | succ n ih =>
      intro p x h1 h2 hx
      have mid : p < 8 → ∀ (b : Bool), (decide (S 11 c p ≠ -1) && (decide (fhF S c p = -1) || decide (S 11 c p < fhF S c p))) = b → G p9 l e9 { frames := 2, cells := 0, slots := 0, locals := 47 } s9 m9 a9 b9 me9 c9 D ad A9 6 (MQ b9 (va_Qi (PR ad ca (fh S c) S) (fun E' t => WW D ad CNT A9 E' t.heap) A9) a9 s9 0 0 A9) 0 0 CNT (SH ad ca (S)) 42 [(0, .ref (ad 9 c)), (1, .ref (ad 2 0)), (2, .int (x)), (3, .int (nI p)), (4, .int (S 11 c p)), (5, .int (bI (b)))] [] := by
        intro hp b hb
        refine g_iload hB 5 dX0_firstHeldMoment_42 rfl ?_
        refine b_if_eq hB (b) 61 dX0_firstHeldMoment_44 (by decide) (fun c_44 => ?_) (fun c_44 => ?_)
        · have e : fhF S c (p + 1) = x := by rw [fhF, hb, c_44, hx]; rfl
          refine g_iinc hB (nI (p + 1)) dX0_firstHeldMoment_61 rfl (nI_1 _) (by decide) ?_
          refine g_goto hB 4 dX0_firstHeldMoment_64 (by decide) ?_
          exact g_sub _ rfl (ih (p + 1) _ (by omega) (by omega) e.symm)
        · refine g_aload_n hB 0 dX0_firstHeldMoment_47 rfl rfl ?_
          refine g_iload hB 4 dX0_firstHeldMoment_48 rfl ?_
          refine g_aload_n hB 1 dX0_firstHeldMoment_50 rfl rfl ?_
          refine g_callVI hB (c_X0_countGoodAt _ c hc40 _) k_X0_71 rfl yk_X0_countGoodAt ⟨Nat.le_of_ble_eq_true rfl, Nat.le_of_ble_eq_true rfl⟩ ⟨(show c < 40 by first | assumption | omega), _, _, _, rfl, rfl, rfl⟩ rfl (Nat.le_of_ble_eq_true rfl) ⟨Nat.le_of_ble_eq_true rfl, Nat.le_of_ble_eq_true rfl⟩ dX0_firstHeldMoment_51 ?_
          rintro _ _ ⟨rfl, rfl⟩
          have hcg : cgN S c (S 11 c p) ≤ 8 := cntB_le _ 8
          refine g_iconst hB (nI 2) dX0_firstHeldMoment_54 rfl ?_
          refine n_icmp_lt hB (cgN S c (S 11 c p)) 2 61 dX0_firstHeldMoment_55 (by decide) (by omega) (by omega) (fun c_55 => ?_) (fun c_55 => ?_)
          · have e : fhF S c (p + 1) = x := by rw [fhF, decide_eq_false (show ¬ 2 ≤ cgN S c (S 11 c p) by omega), Bool.and_false, hx]; rfl
            refine g_iinc hB (nI (p + 1)) dX0_firstHeldMoment_61 rfl (nI_1 _) (by decide) ?_
            refine g_goto hB 4 dX0_firstHeldMoment_64 (by decide) ?_
            exact g_sub _ rfl (ih (p + 1) _ (by omega) (by omega) e.symm)
          · have e : fhF S c (p + 1) = S 11 c p := by rw [fhF, hb, c_44, decide_eq_true (show 2 ≤ cgN S c (S 11 c p) by omega)]; rfl
            refine g_iload hB 4 dX0_firstHeldMoment_58 rfl ?_
            refine g_istore_n hB 2 dX0_firstHeldMoment_60 rfl (by decide) ?_
            refine g_iinc hB (nI (p + 1)) dX0_firstHeldMoment_61 rfl (nI_1 _) (by decide) ?_
            refine g_goto hB 4 dX0_firstHeldMoment_64 (by decide) ?_
            exact g_sub _ rfl (ih (p + 1) _ (by omega) (by omega) e.symm)
      refine g_iload_n hB 3 dX0_firstHeldMoment_4 rfl rfl ?_
      refine g_bipush hB (nI 8) dX0_firstHeldMoment_5 rfl ?_
      refine n_icmp_ge hB p 8 67 dX0_firstHeldMoment_7 (by decide) (by omega) (by omega) (fun c_7 => ?_) (fun c_7 => ?_)
      · have hp : p = 8 := by omega
        subst hp
        refine g_iload_n hB 2 dX0_firstHeldMoment_67 rfl rfl ?_
        exact g_iret hB hr rfl (Nat.le_of_ble_eq_true rfl) (Nat.le_of_ble_eq_true rfl) (⟨by rw [hx]; rfl, rfl⟩) dX0_firstHeldMoment_68
      · refine g_aload_n hB 0 dX0_firstHeldMoment_10 rfl rfl ?_
        refine g_get (ci := 0) (T := TX0) (N := 8) hB in_X0 rfl 9 c 7 (show c < 40 by first | assumption | omega) (by decide) rfl tw_fl_X0_19 rfl dX0_firstHeldMoment_11 ?_
        refine g_iload_n hB 3 dX0_firstHeldMoment_14 rfl rfl ?_
        refine g_iald hB 11 c p (n := 8) (show c < 40 by first | assumption | omega) rfl (by first | assumption | omega) (Nat.le_of_ble_eq_true rfl) dX0_firstHeldMoment_15 ?_
        refine g_top ((S 11 c p)) (rfl) ?_
        refine g_istore hB 4 dX0_firstHeldMoment_16 (by decide) ?_
        refine g_iload hB 4 dX0_firstHeldMoment_18 rfl ?_
        refine g_iconst hB (-1) dX0_firstHeldMoment_20 rfl ?_
        refine g_icmp_eq hB 39 dX0_firstHeldMoment_21 (by decide) (fun c_21 => ?_) (fun c_21 => ?_)
        · have e : (decide (S 11 c p ≠ -1) && (decide (fhF S c p = -1) || decide (S 11 c p < fhF S c p))) = false := by rw [decide_eq_false (fun z => z c_21)]; rfl
          refine g_iconst hB (nI 0) dX0_firstHeldMoment_39 rfl ?_
          refine g_istore hB 5 dX0_firstHeldMoment_40 (by decide) ?_
          exact g_sub [(0, .ref (ad 9 c)), (1, .ref (ad 2 0)), (2, .int x), (3, .int (nI p)), (4, .int (S 11 c p)), (5, .int (bI false))] rfl (mid c_7 false e)
        · refine g_iload_n hB 2 dX0_firstHeldMoment_24 rfl rfl ?_
          refine g_iconst hB (-1) dX0_firstHeldMoment_25 rfl ?_
          refine g_icmp_eq hB 35 dX0_firstHeldMoment_26 (by decide) (fun c_26 => ?_) (fun c_26 => ?_)
          · have e : (decide (S 11 c p ≠ -1) && (decide (fhF S c p = -1) || decide (S 11 c p < fhF S c p))) = true := by rw [decide_eq_true c_21, ← hx, decide_eq_true c_26]; rfl
            refine g_iconst hB (nI 1) dX0_firstHeldMoment_35 rfl ?_
            refine g_goto hB 40 dX0_firstHeldMoment_36 (by decide) ?_
            refine g_istore hB 5 dX0_firstHeldMoment_40 (by decide) ?_
            exact g_sub [(0, .ref (ad 9 c)), (1, .ref (ad 2 0)), (2, .int x), (3, .int (nI p)), (4, .int (S 11 c p)), (5, .int (bI true))] rfl (mid c_7 true e)
          · refine g_iload hB 4 dX0_firstHeldMoment_29 rfl ?_
            refine g_iload_n hB 2 dX0_firstHeldMoment_31 rfl rfl ?_
            refine g_icmp_ge hB 39 dX0_firstHeldMoment_32 (by decide) (fun c_32 => ?_) (fun c_32 => ?_)
            · have e : (decide (S 11 c p ≠ -1) && (decide (fhF S c p = -1) || decide (S 11 c p < fhF S c p))) = false := by rw [← hx, decide_eq_false c_26, decide_eq_false (Int32.not_lt.mpr c_32)]; simp
              refine g_iconst hB (nI 0) dX0_firstHeldMoment_39 rfl ?_
              refine g_istore hB 5 dX0_firstHeldMoment_40 (by decide) ?_
              exact g_sub [(0, .ref (ad 9 c)), (1, .ref (ad 2 0)), (2, .int x), (3, .int (nI p)), (4, .int (S 11 c p)), (5, .int (bI false))] rfl (mid c_7 false e)
            · have e : (decide (S 11 c p ≠ -1) && (decide (fhF S c p = -1) || decide (S 11 c p < fhF S c p))) = true := by rw [decide_eq_true c_21, ← hx, decide_eq_true (Int32.not_le.mp c_32), Bool.or_true]; rfl
              refine g_iconst hB (nI 1) dX0_firstHeldMoment_35 rfl ?_
              refine g_goto hB 40 dX0_firstHeldMoment_36 (by decide) ?_
              refine g_istore hB 5 dX0_firstHeldMoment_40 (by decide) ?_
              exact g_sub [(0, .ref (ad 9 c)), (1, .ref (ad 2 0)), (2, .int x), (3, .int (nI p)), (4, .int (S 11 c p)), (5, .int (bI true))] rfl (mid c_7 true e)
  refine g_iconst hB (-1) dX0_firstHeldMoment_0 rfl ?_
  refine g_istore_n hB 2 dX0_firstHeldMoment_1 rfl (by decide) ?_
  refine g_iconst hB (nI 0) dX0_firstHeldMoment_2 rfl ?_
  refine g_istore_n hB 3 dX0_firstHeldMoment_3 rfl (by decide) ?_
  exact g_sub _ rfl (loop 9 0 _ (by omega) (by omega) rfl)
theorem c_X0_isProposalVoided (S : Mem) (c a : Nat) (hc40 : c < 40) (ha : S 9 c 0 = nI a) (ha8 : a < 8) : CI l yX0_isProposalVoided cX0_isProposalVoided 2 (some .boolean) { frames := 1, cells := 0, slots := 0, locals := 21 } D ad CNT ca SR (SH ad ca S) [.ref (ad 9 c), .ref (ad 2 0)] (PR ad ca (bI (hvB S a (S 9 c 3))) S) := by
  refine CI.of _ RX0 (by decide +kernel) rfl (Nat.le_of_ble_eq_true rfl) ?_
  intro p9 e9 s9 m9 a9 b9 me9 c9 A9 hB hr hnm9
  refine g_aload_n hB 0 dX0_isProposalVoided_0 rfl rfl ?_
  refine g_get (ci := 0) (T := TX0) (N := 8) hB in_X0 rfl 9 c 0 (show c < 40 by first | assumption | omega) (by decide) rfl tw_fl_X0_28 rfl dX0_isProposalVoided_1 ?_
  refine g_top (nI a) (ha) ?_
  refine n_if_lt (tgt := 36) hB _ dX0_isProposalVoided_4 (by decide) (by omega) ?_
  refine g_aload_n hB 0 dX0_isProposalVoided_7 rfl rfl ?_
  refine g_get (ci := 0) (T := TX0) (N := 8) hB in_X0 rfl 9 c 0 (show c < 40 by first | assumption | omega) (by decide) rfl tw_fl_X0_28 rfl dX0_isProposalVoided_8 ?_
  refine g_top (nI a) (ha) ?_
  refine g_aload_n hB 1 dX0_isProposalVoided_11 rfl rfl ?_
  refine g_alen hB 2 0 1 (ty := .object RX4) (by decide) rfl rfl dX0_isProposalVoided_12 ?_
  refine n_icmp_ge hB a 8 36 dX0_isProposalVoided_13 (by decide) (by omega) (by omega) (fun c_13 => ?_) (fun c_13 => ?_)
  · exact absurd c_13 (by omega)
  · refine g_aload_n hB 1 dX0_isProposalVoided_16 rfl rfl ?_
    refine g_aload_n hB 0 dX0_isProposalVoided_17 rfl rfl ?_
    refine g_get (ci := 0) (T := TX0) (N := 8) hB in_X0 rfl 9 c 0 (show c < 40 by first | assumption | omega) (by decide) rfl tw_fl_X0_28 rfl dX0_isProposalVoided_18 ?_
    refine g_top (nI a) (ha) ?_
    refine g_aald hB 2 0 a 1 (n := 8) (by decide) rfl rfl (by first | assumption | omega) (Nat.le_of_ble_eq_true rfl) rfl dX0_isProposalVoided_21 ?_
    refine g_aload_n hB 0 dX0_isProposalVoided_22 rfl rfl ?_
    refine g_get (ci := 0) (T := TX0) (N := 8) hB in_X0 rfl 9 c 3 (show c < 40 by first | assumption | omega) (by decide) rfl tw_fl_X0_37 rfl dX0_isProposalVoided_23 ?_
    refine g_callVI hB (c_X4_hasVoided _ a _ ha8) k_X0_65 rfl yk_X4_hasVoided ⟨Nat.le_of_ble_eq_true rfl, Nat.le_of_ble_eq_true rfl⟩ ⟨(show a < 8 by first | assumption | omega), _, _, _, rfl, rfl, rfl⟩ rfl (Nat.le_of_ble_eq_true rfl) ⟨Nat.le_of_ble_eq_true rfl, Nat.le_of_ble_eq_true rfl⟩ dX0_isProposalVoided_26 ?_
    rintro _ _ ⟨rfl, rfl⟩
    refine b_if_eq hB (hvB S a (S 9 c 3)) 36 dX0_isProposalVoided_29 (by decide) (fun c_29 => ?_) (fun c_29 => ?_)
    · refine g_iconst hB (nI 0) dX0_isProposalVoided_36 rfl ?_
      exact g_iret hB hr rfl (Nat.le_of_ble_eq_true rfl) (Nat.le_of_ble_eq_true rfl) (⟨by rw [c_29]; rfl, rfl⟩) dX0_isProposalVoided_37
    · refine g_iconst hB (nI 1) dX0_isProposalVoided_32 rfl ?_
      refine g_goto hB 37 dX0_isProposalVoided_33 (by decide) ?_
      exact g_iret hB hr rfl (Nat.le_of_ble_eq_true rfl) (Nat.le_of_ble_eq_true rfl) (⟨by rw [c_29]; rfl, rfl⟩) dX0_isProposalVoided_37
theorem c_X0_isHeldAnew (S : Mem) (c a : Nat) (hc40 : c < 40) (ha : S 9 c 0 = nI a) (ha8 : a < 8) : CI l yX0_isHeldAnew cX0_isHeldAnew 4 (some .boolean) { frames := 2, cells := 0, slots := 0, locals := 42 } D ad CNT ca SR (SH ad ca S) [.ref (ad 9 c), .ref (ad 2 0)] (PR ad ca (bI (haB S c)) S) := by
  have hia : ix (S 9 c 0) = a := by rw [ha]; exact ix_nI (by omega)
  refine CI.of _ RX0 (by decide +kernel) rfl (Nat.le_of_ble_eq_true rfl) ?_
  intro p9 e9 s9 m9 a9 b9 me9 c9 A9 hB hr hnm9
  have loop : hvB S a (S 9 c 3) = false → ∀ (n p x : Nat), 8 - p < n → p ≤ 8 → x = cntB (haP S c) p → G p9 l e9 { frames := 2, cells := 0, slots := 0, locals := 42 } s9 m9 a9 b9 me9 c9 D ad A9 4 (MQ b9 (va_Qi (PR ad ca (bI (haB S c)) S) (fun E' t => WW D ad CNT A9 E' t.heap) A9) a9 s9 0 0 A9) 0 0 CNT (SH ad ca (S)) 14 [(0, .ref (ad 9 c)), (1, .ref (ad 2 0)), (2, .int (nI x)), (3, .int (nI p))] [] := by
    intro h0 n
    induction n with
    | zero => intro p x h1; omega
    | succ n ih =>
      intro p x h1 h2 hx
      have hx8 : x ≤ p := by rw [hx]; exact cntB_le _ _
      refine g_iload_n hB 3 dX0_isHeldAnew_14 rfl rfl ?_
      refine g_bipush hB (nI 8) dX0_isHeldAnew_15 rfl ?_
      refine n_icmp_ge hB p 8 54 dX0_isHeldAnew_17 (by decide) (by omega) (by omega) (fun c_17 => ?_) (fun c_17 => ?_)
      · have hp : p = 8 := by omega
        subst hp
        have h1 : haB S c = decide (2 ≤ x) := by unfold haB; rw [hia, h0, hx]; rfl
        refine g_iload_n hB 2 dX0_isHeldAnew_54 rfl rfl ?_
        refine g_iconst hB (nI 2) dX0_isHeldAnew_55 rfl ?_
        refine n_icmp_lt hB x 2 63 dX0_isHeldAnew_56 (by decide) (by omega) (by omega) (fun c_56 => ?_) (fun c_56 => ?_)
        · rw [decide_eq_false (show ¬ 2 ≤ x by omega)] at h1
          refine g_iconst hB (nI 0) dX0_isHeldAnew_63 rfl ?_
          exact g_iret hB hr rfl (Nat.le_of_ble_eq_true rfl) (Nat.le_of_ble_eq_true rfl) (⟨by rw [h1]; rfl, rfl⟩) dX0_isHeldAnew_64
        · rw [decide_eq_true (show 2 ≤ x by omega)] at h1
          refine g_iconst hB (nI 1) dX0_isHeldAnew_59 rfl ?_
          refine g_goto hB 64 dX0_isHeldAnew_60 (by decide) ?_
          exact g_iret hB hr rfl (Nat.le_of_ble_eq_true rfl) (Nat.le_of_ble_eq_true rfl) (⟨by rw [h1]; rfl, rfl⟩) dX0_isHeldAnew_64
      · refine g_aload_n hB 0 dX0_isHeldAnew_20 rfl rfl ?_
        refine g_get (ci := 0) (T := TX0) (N := 8) hB in_X0 rfl 9 c 7 (show c < 40 by first | assumption | omega) (by decide) rfl tw_fl_X0_19 rfl dX0_isHeldAnew_21 ?_
        refine g_iload_n hB 3 dX0_isHeldAnew_24 rfl rfl ?_
        refine g_iald hB 11 c p (n := 8) (show c < 40 by first | assumption | omega) rfl (by first | assumption | omega) (Nat.le_of_ble_eq_true rfl) dX0_isHeldAnew_25 ?_
        refine g_iconst hB (-1) dX0_isHeldAnew_26 rfl ?_
        refine g_icmp_eq hB 48 dX0_isHeldAnew_27 (by decide) (fun c_27 => ?_) (fun c_27 => ?_)
        · have e : haP S c p = false := by unfold haP; rw [decide_eq_false (fun z => z c_27)]; rfl
          refine g_iinc hB (nI (p + 1)) dX0_isHeldAnew_48 rfl (nI_1 _) (by decide) ?_
          refine g_goto hB 14 dX0_isHeldAnew_51 (by decide) ?_
          exact g_sub _ rfl (ih (p + 1) _ (by omega) (by omega) (by rw [cntB, ← hx, e]; rfl))
        · refine g_aload_n hB 1 dX0_isHeldAnew_30 rfl rfl ?_
          refine g_iload_n hB 3 dX0_isHeldAnew_31 rfl rfl ?_
          refine g_aald hB 2 0 p 1 (n := 8) (by decide) rfl rfl (by first | assumption | omega) (Nat.le_of_ble_eq_true rfl) rfl dX0_isHeldAnew_32 ?_
          refine g_aload_n hB 0 dX0_isHeldAnew_33 rfl rfl ?_
          refine g_get (ci := 0) (T := TX0) (N := 8) hB in_X0 rfl 9 c 6 (show c < 40 by first | assumption | omega) (by decide) rfl tw_fl_X0_15 rfl dX0_isHeldAnew_34 ?_
          refine g_iload_n hB 3 dX0_isHeldAnew_37 rfl rfl ?_
          refine g_iald hB 10 c p (n := 8) (show c < 40 by first | assumption | omega) rfl (by first | assumption | omega) (Nat.le_of_ble_eq_true rfl) dX0_isHeldAnew_38 ?_
          refine g_callVI hB (c_X4_hasVoided _ p _ c_17) k_X0_65 rfl yk_X4_hasVoided ⟨Nat.le_of_ble_eq_true rfl, Nat.le_of_ble_eq_true rfl⟩ ⟨(show p < 8 by first | assumption | omega), _, _, _, rfl, rfl, rfl⟩ rfl (Nat.le_of_ble_eq_true rfl) ⟨Nat.le_of_ble_eq_true rfl, Nat.le_of_ble_eq_true rfl⟩ dX0_isHeldAnew_39 ?_
          rintro _ _ ⟨rfl, rfl⟩
          refine b_if_ne hB (hvB S p (S 10 c p)) 48 dX0_isHeldAnew_42 (by decide) (fun c_42 => ?_) (fun c_42 => ?_)
          · have e : haP S c p = false := by unfold haP; rw [c_42, Bool.not_true, Bool.and_false]
            refine g_iinc hB (nI (p + 1)) dX0_isHeldAnew_48 rfl (nI_1 _) (by decide) ?_
            refine g_goto hB 14 dX0_isHeldAnew_51 (by decide) ?_
            exact g_sub _ rfl (ih (p + 1) _ (by omega) (by omega) (by rw [cntB, ← hx, e]; rfl))
          · have e : haP S c p = true := by unfold haP; rw [c_42, decide_eq_true c_27]; rfl
            refine g_iinc hB (nI (x + 1)) dX0_isHeldAnew_45 rfl (nI_1 _) (by decide) ?_
            refine g_iinc hB (nI (p + 1)) dX0_isHeldAnew_48 rfl (nI_1 _) (by decide) ?_
            refine g_goto hB 14 dX0_isHeldAnew_51 (by decide) ?_
            exact g_sub _ rfl (ih (p + 1) _ (by omega) (by omega) (by rw [cntB, ← hx, e]; rfl))
  refine g_aload_n hB 0 dX0_isHeldAnew_0 rfl rfl ?_
  refine g_aload_n hB 1 dX0_isHeldAnew_1 rfl rfl ?_
  refine g_callVI hB (c_X0_isProposalVoided _ c a hc40 ha ha8) k_X0_61 rfl yk_X0_isProposalVoided ⟨Nat.le_of_ble_eq_true rfl, Nat.le_of_ble_eq_true rfl⟩ ⟨(show c < 40 by first | assumption | omega), _, _, _, rfl, rfl, rfl⟩ rfl (Nat.le_of_ble_eq_true rfl) ⟨Nat.le_of_ble_eq_true rfl, Nat.le_of_ble_eq_true rfl⟩ dX0_isHeldAnew_2 ?_
  rintro _ _ ⟨rfl, rfl⟩
  refine b_if_eq hB (hvB S a (S 9 c 3)) 10 dX0_isHeldAnew_5 (by decide) (fun c_5 => ?_) (fun c_5 => ?_)
  · refine g_iconst hB (nI 0) dX0_isHeldAnew_10 rfl ?_
    refine g_istore_n hB 2 dX0_isHeldAnew_11 rfl (by decide) ?_
    refine g_iconst hB (nI 0) dX0_isHeldAnew_12 rfl ?_
    refine g_istore_n hB 3 dX0_isHeldAnew_13 rfl (by decide) ?_
    exact g_sub _ rfl (loop c_5 9 0 0 (by omega) (by omega) rfl)
  · refine g_iconst hB (nI 0) dX0_isHeldAnew_8 rfl ?_
    exact g_iret hB hr rfl (Nat.le_of_ble_eq_true rfl) (Nat.le_of_ble_eq_true rfl) (⟨by unfold haB; rw [hia, c_5]; rfl, rfl⟩) dX0_isHeldAnew_9
theorem anM_u {S : Mem} {c : Nat} : uM (anM S c) 14 1 c (fh S c) = uS (uS S 14 1 (ovl (S 14 1) 0 (c + 1) (fh S))) 13 1 (hdA S c) := by
  have e : anM S c 14 1 = ovl (S 14 1) 0 c (fh S) := by unfold anM; rw [uS_n (by decide), uS_s]
  have e2 : uM (anM S c) 14 1 c (fh S c) = uS (anM S c) 14 1 (upd (ovl (S 14 1) 0 c (fh S)) c (fh S c)) := by unfold uM; rw [e]
  rw [e2, ovl0_s]
  funext a b
  unfold anM uS
  by_cases h1 : a = 14 ∧ b = 1
  · have h2 : ¬ (a = 13 ∧ b = 1) := fun z => by omega
    rw [if_pos h1, if_neg h2, if_pos h1]
  · rw [if_neg h1, if_neg h1]
    by_cases h2 : a = 13 ∧ b = 1
    · rw [if_pos h2, if_pos h2]
    · rw [if_neg h2, if_neg h2, if_neg h1]
theorem anM_f {S : Mem} {c : Nat} (h : haB S c = false) : uM (anM S c) 14 1 c (fh S c) = anM S (c + 1) := by
  rw [anM_u]
  have e : hdA S (c + 1) = hdA S c := by unfold hdA; rw [hdG, h]; rfl
  unfold anM
  rw [e]
theorem anM_t {S : Mem} {c q : Nat} (hq : q < 132) (hcq : hdC S c = q) (h : haB S c = true) (hc : c ≤ 40) : raM (uM (anM S c) 14 1 c (fh S c)) 1 q c = anM S (c + 1) := by
  rw [anM_u, raM_uS]
  have e2 : uS S 14 1 (ovl (S 14 1) 0 (c + 1) (fh S)) 14 1 = ovl (S 14 1) 0 (c + 1) (fh S) := uS_s
  have e3 : ∀ d, d < c + 1 → ovl (S 14 1) 0 (c + 1) (fh S) d = fh S d := fun d hd => by
    have := ovl_in (f := S 14 1) (b := 0) (v := fh S) hd
    rw [Nat.zero_add] at this
    exact this
  have e4 : hdA S (c + 1) = bif decide (rkI (fh S) (hdA S c q) < fh S c) then upd (hdA S c) q (nI c) else hdA S c := by
    unfold hdA
    rw [hdG, h, hcq]; rfl
  have e5 : rkI (ovl (S 14 1) 0 (c + 1) (fh S)) (hdA S c q) = rkI (fh S) (hdA S c q) := by
    rcases hdG_in (ok := haB S) (cell := hdC S) (rk := fh S) (hdB_at (S := S) (h := 1) hq) hc with z | ⟨d, z0, z1, z3⟩
    · rw [show hdA S c q = -1 from z, rkI_m, rkI_m]
    · rw [show hdA S c q = nI d from z3, rkI_n z0, rkI_n z0, e3 d (by omega)]
  rw [e2, e5, e3 c (by omega)]
  unfold anM
  rw [e4]
theorem c_X5_findHeadsAnew (S : Mem) (nc : Nat) (hc : S 0 0 9 = nI nc) (hnc : nc ≤ 40) (hcell : ∀ c, c < nc → ∃ q, q < 132 ∧ S 9 c 1 = nI q) (hau : ∀ c, c < nc → ∃ a, a < 8 ∧ S 9 c 0 = nI a) : CV l yX5_findHeadsAnew cX5_findHeadsAnew 2 none { frames := 3, cells := 0, slots := 0, locals := 72 } D ad CNT ca SR (SH ad ca S) [.ref (ad 0 0)] (PM ad ca (anM S nc)) := by
  refine CV.of _ RX5 (by decide +kernel) rfl (Nat.le_of_ble_eq_true rfl) ?_
  intro p9 e9 s9 m9 a9 b9 me9 c9 A9 hB hr hnm9
  have loop : ∀ (n c : Nat), nc - c < n → c ≤ nc → G p9 l e9 { frames := 3, cells := 0, slots := 0, locals := 72 } s9 m9 a9 b9 me9 c9 D ad A9 2 (MQ b9 (va_Qv (PM ad ca (anM S nc)) (fun E' t => WW D ad CNT A9 E' t.heap) A9) a9 s9 0 0 A9) 0 0 CNT (SH ad ca (anM S c)) 12 [(0, .ref (ad 0 0)), (1, .int (nI c))] [] := by
    intro n
    induction n with
    | zero => intro c h1; omega
    | succ n ih =>
      intro c h1 h2
      refine g_iload_n hB 1 dX5_findHeadsAnew_12 rfl rfl ?_
      refine g_aload_n hB 0 dX5_findHeadsAnew_13 rfl rfl ?_
      refine g_get (ci := 5) (T := TX5) (N := 16) hB in_X5 rfl 0 0 9 (by decide) (by decide) rfl tw_fl_X5_163 rfl dX5_findHeadsAnew_14 ?_
      refine g_top (nI nc) (hc) ?_
      refine n_icmp_ge hB c nc 80 dX5_findHeadsAnew_17 (by decide) (by omega) (by omega) (fun c_17 => ?_) (fun c_17 => ?_)
      · have hk : c = nc := by omega
        subst hk
        exact g_vret hB hr (Nat.le_of_ble_eq_true rfl) (Nat.le_of_ble_eq_true rfl) (rfl) dX5_findHeadsAnew_80
      · obtain ⟨q, hq, eq_⟩ := hcell c c_17
        obtain ⟨a, ha8, ha⟩ := hau c c_17
        have hcq : hdC S c = q := by unfold hdC; rw [eq_]; exact ix_nI (by omega)
        refine g_aload_n hB 0 dX5_findHeadsAnew_20 rfl rfl ?_
        refine g_get (ci := 5) (T := TX5) (N := 16) hB in_X5 rfl 0 0 14 (by decide) (by decide) rfl tw_fl_X5_51 rfl dX5_findHeadsAnew_21 ?_
        refine g_iload_n hB 1 dX5_findHeadsAnew_24 rfl rfl ?_
        refine g_aload_n hB 0 dX5_findHeadsAnew_25 rfl rfl ?_
        refine g_get (ci := 5) (T := TX5) (N := 16) hB in_X5 rfl 0 0 8 (by decide) (by decide) rfl tw_fl_X5_37 rfl dX5_findHeadsAnew_26 ?_
        refine g_iload_n hB 1 dX5_findHeadsAnew_29 rfl rfl ?_
        refine g_aald hB 4 0 c 3 (n := 40) (by decide) rfl rfl (by first | assumption | omega) (Nat.le_of_ble_eq_true rfl) rfl dX5_findHeadsAnew_30 ?_
        refine g_aload_n hB 0 dX5_findHeadsAnew_31 rfl rfl ?_
        refine g_get (ci := 5) (T := TX5) (N := 16) hB in_X5 rfl 0 0 3 (by decide) (by decide) rfl tw_fl_X5_19 rfl dX5_findHeadsAnew_32 ?_
        refine g_callVI hB (c_X0_firstHeldMoment _ c (by omega)) k_X5_309 rfl yk_X0_firstHeldMoment ⟨Nat.le_of_ble_eq_true rfl, Nat.le_of_ble_eq_true rfl⟩ ⟨(show c < 40 by first | assumption | omega), _, _, _, rfl, rfl, rfl⟩ rfl (Nat.le_of_ble_eq_true rfl) ⟨Nat.le_of_ble_eq_true rfl, Nat.le_of_ble_eq_true rfl⟩ dX5_findHeadsAnew_35 ?_
        rintro _ _ ⟨rfl, rfl⟩
        refine g_callVV hB (c_X1_setRank _ 1 (by decide) c (by omega) _) k_X5_293 rfl yk_X1_setRank ⟨Nat.le_of_ble_eq_true rfl, Nat.le_of_ble_eq_true rfl⟩ ⟨(by decide), _, _, _, rfl, rfl, rfl⟩ rfl (Nat.le_of_ble_eq_true rfl) ⟨Nat.le_of_ble_eq_true rfl, Nat.le_of_ble_eq_true rfl⟩ dX5_findHeadsAnew_38 ?_
        rintro _ rfl
        refine g_aload_n hB 0 dX5_findHeadsAnew_41 rfl rfl ?_
        refine g_get (ci := 5) (T := TX5) (N := 16) hB in_X5 rfl 0 0 8 (by decide) (by decide) rfl tw_fl_X5_37 rfl dX5_findHeadsAnew_42 ?_
        refine g_iload_n hB 1 dX5_findHeadsAnew_45 rfl rfl ?_
        refine g_aald hB 4 0 c 3 (n := 40) (by decide) rfl rfl (by first | assumption | omega) (Nat.le_of_ble_eq_true rfl) rfl dX5_findHeadsAnew_46 ?_
        refine g_aload_n hB 0 dX5_findHeadsAnew_47 rfl rfl ?_
        refine g_get (ci := 5) (T := TX5) (N := 16) hB in_X5 rfl 0 0 3 (by decide) (by decide) rfl tw_fl_X5_19 rfl dX5_findHeadsAnew_48 ?_
        refine g_callVI hB (c_X0_isHeldAnew _ c a (by omega) ha ha8) k_X5_313 rfl yk_X0_isHeldAnew ⟨Nat.le_of_ble_eq_true rfl, Nat.le_of_ble_eq_true rfl⟩ ⟨(show c < 40 by first | assumption | omega), _, _, _, rfl, rfl, rfl⟩ rfl (Nat.le_of_ble_eq_true rfl) ⟨Nat.le_of_ble_eq_true rfl, Nat.le_of_ble_eq_true rfl⟩ dX5_findHeadsAnew_51 ?_
        rintro _ _ ⟨rfl, rfl⟩
        refine b_if_eq hB (haB S c) 74 dX5_findHeadsAnew_54 (by decide) (fun c_54 => ?_) (fun c_54 => ?_)
        · refine g_iinc hB (nI (c + 1)) dX5_findHeadsAnew_74 rfl (nI_1 _) (by decide) ?_
          refine g_goto hB 12 dX5_findHeadsAnew_77 (by decide) ?_
          refine s_eq _ ?_ (g_sub _ rfl (ih (c + 1) (by omega) (by omega)))
          exact anM_f c_54
        · refine g_aload_n hB 0 dX5_findHeadsAnew_57 rfl rfl ?_
          refine g_get (ci := 5) (T := TX5) (N := 16) hB in_X5 rfl 0 0 14 (by decide) (by decide) rfl tw_fl_X5_51 rfl dX5_findHeadsAnew_58 ?_
          refine g_aload_n hB 0 dX5_findHeadsAnew_61 rfl rfl ?_
          refine g_get (ci := 5) (T := TX5) (N := 16) hB in_X5 rfl 0 0 8 (by decide) (by decide) rfl tw_fl_X5_37 rfl dX5_findHeadsAnew_62 ?_
          refine g_iload_n hB 1 dX5_findHeadsAnew_65 rfl rfl ?_
          refine g_aald hB 4 0 c 3 (n := 40) (by decide) rfl rfl (by first | assumption | omega) (Nat.le_of_ble_eq_true rfl) rfl dX5_findHeadsAnew_66 ?_
          refine g_get (ci := 0) (T := TX0) (N := 8) hB in_X0 rfl 9 c 1 (show c < 40 by first | assumption | omega) (by decide) rfl tw_fl_X5_272 rfl dX5_findHeadsAnew_67 ?_
          refine g_top (nI (q)) (eq_) ?_
          refine g_iload_n hB 1 dX5_findHeadsAnew_70 rfl rfl ?_
          refine g_callVV hB (c_X1_raise _ 1 (by decide) q c hq (by omega)) k_X5_306 rfl yk_X1_raise ⟨Nat.le_of_ble_eq_true rfl, Nat.le_of_ble_eq_true rfl⟩ ⟨(by decide), _, _, _, rfl, rfl, rfl⟩ rfl (Nat.le_of_ble_eq_true rfl) ⟨Nat.le_of_ble_eq_true rfl, Nat.le_of_ble_eq_true rfl⟩ dX5_findHeadsAnew_71 ?_
          rintro _ rfl
          refine g_iinc hB (nI (c + 1)) dX5_findHeadsAnew_74 rfl (nI_1 _) (by decide) ?_
          refine g_goto hB 12 dX5_findHeadsAnew_77 (by decide) ?_
          refine s_eq _ ?_ (g_sub _ rfl (ih (c + 1) (by omega) (by omega)))
          exact anM_t hq hcq c_54 (by omega)
  refine g_aload_n hB 0 dX5_findHeadsAnew_0 rfl rfl ?_
  refine g_get (ci := 5) (T := TX5) (N := 16) hB in_X5 rfl 0 0 14 (by decide) (by decide) rfl tw_fl_X5_51 rfl dX5_findHeadsAnew_1 ?_
  refine g_get (ci := 1) (T := TX1) (N := 2) hB in_X1 rfl 12 1 0 (by decide) (by decide) rfl tw_fl_X5_219 rfl dX5_findHeadsAnew_4 ?_
  refine g_callVV hB (c_X9_clear13 _ 1 (by decide)) k_X5_303 rfl yk_X9_clear ⟨Nat.le_of_ble_eq_true rfl, Nat.le_of_ble_eq_true rfl⟩ ⟨(by decide), _, _, _, rfl, rfl, rfl⟩ rfl (Nat.le_of_ble_eq_true rfl) ⟨Nat.le_of_ble_eq_true rfl, Nat.le_of_ble_eq_true rfl⟩ dX5_findHeadsAnew_7 ?_
  rintro _ rfl
  refine g_iconst hB (nI 0) dX5_findHeadsAnew_10 rfl ?_
  refine g_istore_n hB 1 dX5_findHeadsAnew_11 rfl (by decide) ?_
  refine s_eq _ ?_ (g_sub _ rfl (loop (nc + 1) 0 (by omega) (by omega)))
  unfold anM
  rw [ovl_0, uS_self]; rfl
end X5
