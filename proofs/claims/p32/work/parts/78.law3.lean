/-! the law: moves, steps, pass -/
section L3
variable {l : Launch} {D : va_G} {ad : Nat → Nat → Nat} {ca : Nat → ClassId} {SR : List (String × Nat × String)}
theorem busy_lt {S : Mem} {ng nm nc t pa rk m : Nat} (hL : LR S ng nm nc t pa rk) (hR : RI S ng nm nc t pa) (hm : m < nm) : (nI t < S 22 1 (7 + m)) ↔ (S 17 0 1 < S 18 4 m) := by
  obtain ⟨⟨-, -, -, hnm3, -, ht, -⟩, -, -, hN, -⟩ := hL
  obtain ⟨u, v, u1, v1, e1, e2, h⟩ := hN.2.2 m (by omega)
  rw [e1, e2, hR.2.2.2.1.1, nI_ltI (by omega) (by omega), nI_ltI (by omega) (by omega)]
  omega

theorem mv_end {S : Mem} {m g ng : Nat} : ∀ k, k ≠ 17 → k ≠ 18 → k ≠ 19 → mvA S m g ng k = uS (uM S 22 1 (4 + m) (nI g)) 22 2 (mvT S m g 16) k := by
  intro k _ h18 _
  unfold mvA uM
  funext i
  by_cases h : k = 22 ∧ i = 2
  · rw [h.1, h.2, uS_s, uS_s]
  · rw [uS_n h, uS_n h]
    by_cases h1 : k = 22 ∧ i = 1
    · rw [h1.1, h1.2, uS_s, uS_s]; rfl
    · rw [uS_n h1, uS_n h1, uS_n (fun z => h18 z.1), uS_n (fun z => h18 z.1)]
theorem c_L_moves (S : Mem) (ng nm nc t pa rk : Nat) (hL : LR S ng nm nc t pa rk) (hR : RI S ng nm nc t pa) (m g : Nat) (hm : m < nm) (hg : g < ng) : CI l yL_moves cL_moves 8 (some .int) { frames := 0, cells := 0, slots := 0, locals := 0 } D ad CNT ca SR (SH ad ca S) [.int (nI m), .int (nI g), .ref (ad 22 0), .ref (ad 22 1), .ref (ad 22 2)] (fun r E' => r = (bif decide (S 17 0 1 < S 18 4 m) then -3 else S 18 3 m) ∧ E' = SH ad ca (bif decide (S 17 0 1 < S 18 4 m) then S else mvA S m g ng)) := by
  have hL0 := hL
  obtain ⟨⟨⟨q0, q1, q2, q3, q4, q5⟩, hng1, hng4, hnm3, hnc12, ht20, hrk20, hpa12⟩, hD, hG, hN, hT, hZ, hC, hCz, hA, hGa, hE⟩ := hL
  have hp := hR.2.2.2.2.2.1
  have hng := hR.1.2.2
  have hlen := pth_len hp hng _ _ (Nat.lt_succ_self _) hg
  have hbl := busy_lt hL0 hR hm
  have e4 : S 22 1 (4 + m) = S 18 3 m := hN.2.1 m hm
  refine CI.of _ RL (by decide +kernel) rfl (Nat.le_of_ble_eq_true rfl) ?_
  intro p9 e9 s9 m9 a9 b9 me9 c9 A9 hB hr hnm9
  have loop2 : decide (S 17 0 1 < S 18 4 m) = false → ∀ (n j : Nat), 16 - j < n → j ≤ 16 → G p9 l e9 { frames := 0, cells := 0, slots := 0, locals := 0 } s9 m9 a9 b9 me9 c9 D ad A9 8 (MQ b9 (va_Qi (fun r E' => r = (bif decide (S 17 0 1 < S 18 4 m) then -3 else S 18 3 m) ∧ E' = SH ad ca (bif decide (S 17 0 1 < S 18 4 m) then S else mvA S m g ng)) (fun E' t => WW D ad CNT A9 E' t.heap) A9) a9 s9 0 0 A9) 0 0 CNT (SH ad ca (uS (uM S 22 1 (4 + m) (nI g)) 22 2 (mvT S m g j))) 60 [(0, .int (nI m)), (1, .int (nI g)), (2, .ref (ad 22 0)), (3, .ref (ad 22 1)), (4, .ref (ad 22 2)), (5, .int (S 18 3 m)), (6, .int (abF S g (pth (S 18 2) g).length)), (7, .int (nI j))] [] := by
    intro hnb n
    induction n with
    | zero => intro j h1; omega
    | succ n ih =>
      intro j h1 h2
      have hs := ovl_s (f := S 22 2) (b := 20 * m) (n := j) (v := fun i => bif decide (i / 4 ∈ pth (S 18 2) g) then S 22 2 (20 * m + i) else nI 0)
      have hold : mvT S m g j (20 * m + j) = S 22 2 (20 * m + j) := ovl_out (by omega)
      refine g_iload hB 7 dL_moves_60 rfl ?_
      refine g_bipush hB (nI 16) dL_moves_62 rfl ?_
      refine n_icmp_ge hB j 16 110 dL_moves_64 (by decide) (by omega) (by omega) (fun c_64 => ?_) (fun c_64 => ?_)
      · have hk : j = 16 := by omega
        subst hk
        refine g_gh (mvA S m g ng) mv_end ?_
        refine g_iload hB 5 dL_moves_110 rfl ?_
        exact g_iret hB hr rfl (Nat.le_of_ble_eq_true rfl) (Nat.le_of_ble_eq_true rfl) (⟨by rw [hnb]; rfl, by rw [hnb]; rfl⟩) dL_moves_112
      · refine g_aload hB 4 dL_moves_67 rfl ?_
        refine g_bipush hB (nI 20) dL_moves_69 rfl ?_
        refine g_iload_n hB 0 dL_moves_71 rfl rfl ?_
        refine g_imul hB dL_moves_72 ?_
        refine g_top (nI (20 * m)) (pk_mul _ _) ?_
        refine g_iload hB 7 dL_moves_73 rfl ?_
        refine g_iadd hB dL_moves_75 ?_
        refine g_top (nI (20 * m + j)) (nI_add _ _) ?_
        refine g_iload hB 6 dL_moves_76 rfl ?_
        refine g_iload hB 7 dL_moves_78 rfl ?_
        refine g_iconst hB (nI 4) dL_moves_80 rfl ?_
        refine g_idiv hB (by decide) dL_moves_81 ?_
        refine g_top (nI (j / 4)) (pk_div (by omega) (by decide) (by decide)) ?_
        refine g_ishr hB dL_moves_82 ?_
        refine g_iconst hB (nI 1) dL_moves_83 rfl ?_
        refine g_iand hB dL_moves_84 ?_
        refine g_iconst hB (nI 1) dL_moves_85 rfl ?_
        refine g_icmp_ne hB 102 dL_moves_86 (by decide) (fun c_86 => ?_) (fun c_86 => ?_)
        · have hb : decide (j / 4 ∈ pth (S 18 2) g) = false := by rw [← abF_mem hp hng4 hg (show j / 4 < 4 by omega), cnt_bit]; exact decide_eq_false c_86
          refine g_iconst hB (nI 0) dL_moves_102 rfl ?_
          refine s_iast hB 22 2 (20 * m + j) (n := 60) (by decide) (fun _ => rfl) (by first | assumption | omega) (Nat.le_of_ble_eq_true rfl) dL_moves_103 ?_
          refine g_iinc hB (nI (j + 1)) dL_moves_104 rfl (nI_1 _) (by decide) ?_
          refine g_goto hB 60 dL_moves_107 (by decide) ?_
          refine s_eq _ ?_ (g_sub _ rfl (ih (j + 1) (by omega) (by omega)))
          rw [hb] at hs
          rw [uM_uS]
          exact congrArg (uS _ 22 2) hs
        · have hb : decide (j / 4 ∈ pth (S 18 2) g) = true := by rw [← abF_mem hp hng4 hg (show j / 4 < 4 by omega), cnt_bit]; exact decide_eq_true c_86
          refine g_aload hB 4 dL_moves_89 rfl ?_
          refine g_bipush hB (nI 20) dL_moves_91 rfl ?_
          refine g_iload_n hB 0 dL_moves_93 rfl rfl ?_
          refine g_imul hB dL_moves_94 ?_
          refine g_top (nI (20 * m)) (pk_mul _ _) ?_
          refine g_iload hB 7 dL_moves_95 rfl ?_
          refine g_iadd hB dL_moves_97 ?_
          refine g_top (nI (20 * m + j)) (nI_add _ _) ?_
          refine g_iald hB 22 2 (20 * m + j) (n := 60) (by decide) rfl (by first | assumption | omega) (Nat.le_of_ble_eq_true rfl) dL_moves_98 ?_
          refine g_top ((S 22 2 (20 * m + j))) (by rw [uS_s]; exact hold) ?_
          refine g_goto hB 103 dL_moves_99 (by decide) ?_
          refine s_iast hB 22 2 (20 * m + j) (n := 60) (by decide) (fun _ => rfl) (by first | assumption | omega) (Nat.le_of_ble_eq_true rfl) dL_moves_103 ?_
          refine g_iinc hB (nI (j + 1)) dL_moves_104 rfl (nI_1 _) (by decide) ?_
          refine g_goto hB 60 dL_moves_107 (by decide) ?_
          refine s_eq _ ?_ (g_sub _ rfl (ih (j + 1) (by omega) (by omega)))
          rw [hb] at hs
          rw [uM_uS]
          exact congrArg (uS _ 22 2) hs
  have back : decide (S 17 0 1 < S 18 4 m) = false → G p9 l e9 { frames := 0, cells := 0, slots := 0, locals := 0 } s9 m9 a9 b9 me9 c9 D ad A9 8 (MQ b9 (va_Qi (fun r E' => r = (bif decide (S 17 0 1 < S 18 4 m) then -3 else S 18 3 m) ∧ E' = SH ad ca (bif decide (S 17 0 1 < S 18 4 m) then S else mvA S m g ng)) (fun E' t => WW D ad CNT A9 E' t.heap) A9) a9 s9 0 0 A9) 0 0 CNT (SH ad ca (S)) 28 [(0, .int (nI m)), (1, .int (nI g)), (2, .ref (ad 22 0)), (3, .ref (ad 22 1)), (4, .ref (ad 22 2)), (5, .int (S 18 3 m)), (6, .int (abF S g (pth (S 18 2) g).length)), (7, .int (-1))] [] := by
    intro hnb
    refine g_iload hB 7 dL_moves_28 rfl ?_
    refine g_if_lt hB 51 dL_moves_30 (by decide) (fun _ => ?_) (fun z => absurd (by decide) z)
    refine g_aload_n hB 3 dL_moves_51 rfl rfl ?_
    refine g_iconst hB (nI 4) dL_moves_52 rfl ?_
    refine g_iload_n hB 0 dL_moves_53 rfl rfl ?_
    refine g_iadd hB dL_moves_54 ?_
    refine g_top (nI (4 + m)) (nI_add _ _) ?_
    refine g_iload_n hB 1 dL_moves_55 rfl rfl ?_
    refine s_iast hB 22 1 (4 + m) (n := 10) (by decide) (fun _ => rfl) (by first | assumption | omega) (Nat.le_of_ble_eq_true rfl) dL_moves_56 ?_
    refine g_iconst hB (nI 0) dL_moves_57 rfl ?_
    refine g_istore hB 7 dL_moves_58 (by decide) ?_
    refine s_eq _ ?_ (g_sub _ rfl (loop2 hnb 17 0 (by omega) (by omega)))
    have e : mvT S m g 0 = uM S 22 1 (4 + m) (nI g) 22 2 := ovl_0.trans (uS_n (fun z => absurd z.2 (by decide))).symm
    rw [e, uS_self]
  have loop : decide (S 17 0 1 < S 18 4 m) = false → ∀ (n k x : Nat), (pth (S 18 2) g).length - k < n → k < (pth (S 18 2) g).length → x = (pth (S 18 2) g).getD k 0 → G p9 l e9 { frames := 0, cells := 0, slots := 0, locals := 0 } s9 m9 a9 b9 me9 c9 D ad A9 8 (MQ b9 (va_Qi (fun r E' => r = (bif decide (S 17 0 1 < S 18 4 m) then -3 else S 18 3 m) ∧ E' = SH ad ca (bif decide (S 17 0 1 < S 18 4 m) then S else mvA S m g ng)) (fun E' t => WW D ad CNT A9 E' t.heap) A9) a9 s9 0 0 A9) 0 0 CNT (SH ad ca (S)) 28 [(0, .int (nI m)), (1, .int (nI g)), (2, .ref (ad 22 0)), (3, .ref (ad 22 1)), (4, .ref (ad 22 2)), (5, .int (S 18 3 m)), (6, .int (abF S g k)), (7, .int (nI x))] [] := by
    intro hnb n
    induction n with
    | zero => intro k x h1; omega
    | succ n ih =>
      intro k x h1 h2 hx
      have hxg : x < ng := by rw [hx]; exact pth_in hp hng hg h2
      have hab : abF S g k ||| (nI 1 <<< (nI x &&& 31)) = abF S g (k + 1) := by rw [hx]; rfl
      rcases Nat.lt_or_ge (k + 1) (pth (S 18 2) g).length with hlt | hge
      · obtain ⟨y, h', a1, a2, a3, a4, a5, a6⟩ := pth_at hp hng (g + 1) g k (by omega) hg hlt
        have hxy : x = y := by rw [hx, a1]
        subst hxy
        have e5 : S 22 1 x = nI h' := (hN.1 x hxg).trans a5
        refine g_iload hB 7 dL_moves_28 rfl ?_
        refine n_if_lt (tgt := 51) hB _ dL_moves_30 (by decide) (by omega) ?_
        refine g_iload hB 6 dL_moves_33 rfl ?_
        refine g_iconst hB (nI 1) dL_moves_35 rfl ?_
        refine g_iload hB 7 dL_moves_36 rfl ?_
        refine g_ishl hB dL_moves_38 ?_
        refine g_ior hB dL_moves_39 ?_
        refine g_top ((abF S g (k + 1))) (hab) ?_
        refine g_istore hB 6 dL_moves_40 (by decide) ?_
        refine g_aload_n hB 3 dL_moves_42 rfl rfl ?_
        refine g_iload hB 7 dL_moves_43 rfl ?_
        refine g_iald hB 22 1 x (n := 10) (by decide) rfl (by first | assumption | omega) (Nat.le_of_ble_eq_true rfl) dL_moves_45 ?_
        refine g_top (nI (h')) (e5) ?_
        refine g_istore hB 7 dL_moves_46 (by decide) ?_
        refine g_goto hB 28 dL_moves_48 (by decide) ?_
        exact g_sub _ rfl (ih (k + 1) h' (by omega) hlt a6.symm)
      · have e5 : S 22 1 x = -1 := by rw [hN.1 x hxg, hx]; exact pth_end hp hng hg (by omega)
        have hk : k + 1 = (pth (S 18 2) g).length := by omega
        refine g_iload hB 7 dL_moves_28 rfl ?_
        refine n_if_lt (tgt := 51) hB _ dL_moves_30 (by decide) (by omega) ?_
        refine g_iload hB 6 dL_moves_33 rfl ?_
        refine g_iconst hB (nI 1) dL_moves_35 rfl ?_
        refine g_iload hB 7 dL_moves_36 rfl ?_
        refine g_ishl hB dL_moves_38 ?_
        refine g_ior hB dL_moves_39 ?_
        refine g_top ((abF S g (pth (S 18 2) g).length)) (hk ▸ hab) ?_
        refine g_istore hB 6 dL_moves_40 (by decide) ?_
        refine g_aload_n hB 3 dL_moves_42 rfl rfl ?_
        refine g_iload hB 7 dL_moves_43 rfl ?_
        refine g_iald hB 22 1 x (n := 10) (by decide) rfl (by first | assumption | omega) (Nat.le_of_ble_eq_true rfl) dL_moves_45 ?_
        refine g_top ((-1)) (e5) ?_
        refine g_istore hB 7 dL_moves_46 (by decide) ?_
        refine g_goto hB 28 dL_moves_48 (by decide) ?_
        exact g_sub _ rfl (back hnb)
  refine g_aload_n hB 2 dL_moves_0 rfl rfl ?_
  refine g_iconst hB (nI 0) dL_moves_1 rfl ?_
  refine g_iald hB 22 0 0 (n := 12) (by decide) rfl (by first | assumption | omega) (Nat.le_of_ble_eq_true rfl) dL_moves_2 ?_
  refine g_top (nI (t)) (q0) ?_
  refine g_aload_n hB 3 dL_moves_3 rfl rfl ?_
  refine g_bipush hB (nI 7) dL_moves_4 rfl ?_
  refine g_iload_n hB 0 dL_moves_6 rfl rfl ?_
  refine g_iadd hB dL_moves_7 ?_
  refine g_top (nI (7 + m)) (nI_add _ _) ?_
  refine g_iald hB 22 1 (7 + m) (n := 10) (by decide) rfl (by first | assumption | omega) (Nat.le_of_ble_eq_true rfl) dL_moves_8 ?_
  refine g_icmp_ge hB 15 dL_moves_9 (by decide) (fun c_9 => ?_) (fun c_9 => ?_)
  · have hb : decide (S 17 0 1 < S 18 4 m) = false := decide_eq_false (fun z => absurd (hbl.mpr z) (Int32.not_lt.mpr c_9))
    refine g_aload_n hB 3 dL_moves_15 rfl rfl ?_
    refine g_iconst hB (nI 4) dL_moves_16 rfl ?_
    refine g_iload_n hB 0 dL_moves_17 rfl rfl ?_
    refine g_iadd hB dL_moves_18 ?_
    refine g_top (nI (4 + m)) (nI_add _ _) ?_
    refine g_iald hB 22 1 (4 + m) (n := 10) (by decide) rfl (by first | assumption | omega) (Nat.le_of_ble_eq_true rfl) dL_moves_19 ?_
    refine g_top ((S 18 3 m)) (e4) ?_
    refine g_istore hB 5 dL_moves_20 (by decide) ?_
    refine g_iconst hB (nI 0) dL_moves_22 rfl ?_
    refine g_istore hB 6 dL_moves_23 (by decide) ?_
    refine g_iload_n hB 1 dL_moves_25 rfl rfl ?_
    refine g_istore hB 7 dL_moves_26 (by decide) ?_
    exact g_sub _ rfl (loop hb _ 0 g (Nat.lt_succ_self _) hlen.1 hlen.2.2.2.1.symm)
  · have hb : decide (S 17 0 1 < S 18 4 m) = true := decide_eq_true (hbl.mp (Int32.not_le.mp c_9))
    refine g_bipush hB (-3) dL_moves_12 rfl ?_
    exact g_iret hB hr rfl (Nat.le_of_ble_eq_true rfl) (Nat.le_of_ble_eq_true rfl) (⟨by rw [hb]; rfl, by rw [hb]; rfl⟩) dL_moves_14

theorem tk_end {S : Mem} {nc m s : Nat} : ∀ k, k ≠ 17 → k ≠ 18 → k ≠ 19 → tkA S nc m s k = uS S 22 2 (tkT S nc m s 4) k := by
  intro k _ h18 _
  funext i
  unfold tkA
  by_cases h : k = 22 ∧ i = 2
  · rw [h.1, h.2, uS_s, uS_s]
  · rw [uS_n h, uS_n h]
    exact uS_n (fun z => h18 z.1)
theorem bk_end {S : Mem} {nc m s : Nat} : ∀ k, k ≠ 17 → k ≠ 18 → k ≠ 19 → bkA S nc m s k = uS S 22 2 (bkT S nc m s 4) k := by
  intro k _ h18 _
  funext i
  unfold bkA
  by_cases h : k = 22 ∧ i = 2
  · rw [h.1, h.2, uS_s, uS_s]
  · rw [uS_n h, uS_n h]
    exact uS_n (fun z => h18 z.1)
theorem c_L_steps (S : Mem) (ng nm nc t pa rk : Nat) (hL : LR S ng nm nc t pa rk) (hR : RI S ng nm nc t pa) (m left : Nat) (hm : m < nm) (hleft : left < 2 ^ 20) : CI l yL_steps cL_steps 12 (some .int) { frames := 3, cells := 0, slots := 0, locals := 77 } D ad CNT ca SR (SH ad ca S) [.int (nI m), .int (nI left), .ref (ad 22 0), .ref (ad 22 1), .ref (ad 22 2), .ref (ad 22 3)] (PR ad ca (nI (stN S nc m left)) (stA S nc m left)) := by
  have hL0 := hL
  obtain ⟨⟨⟨q0, q1, q2, q3, q4, q5⟩, hng1, hng4, hnm3, hnc12, ht20, hrk20, hpa12⟩, hD, hG, hN, hT, hZ, hC, hCz, hA, hGa, hE⟩ := hL
  have hbl := busy_lt hL0 hR hm
  have hld := lay_dup hR hm
  refine CI.of _ RL (by decide +kernel) rfl (Nat.le_of_ble_eq_true rfl) ?_
  intro p9 e9 s9 m9 a9 b9 me9 c9 A9 hB hr hnm9
  -- the second loop: the farthest layer that lags
  have take : mHalt S m = false → ¬ S 17 0 1 < S 18 4 m → left ≠ 0 → ∀ i, mFar S nc m (grp S m) = i + 1 → i < (lay (S 18 2) (grp S m)).length → s4 ((lay (S 18 2) (grp S m)).getD i 0) ≤ 4 → s10 (s4 ((lay (S 18 2) (grp S m)).getD i 0)) = (lay (S 18 2) (grp S m)).getD i 0 → ∀ (n k : Nat), 4 - k < n → k ≤ 4 → G p9 l e9 { frames := 3, cells := 0, slots := 0, locals := 77 } s9 m9 a9 b9 me9 c9 D ad A9 12 (MQ b9 (va_Qi (PR ad ca (nI (stN S nc m left)) (stA S nc m left)) (fun E' t => WW D ad CNT A9 E' t.heap) A9) a9 s9 0 0 A9) 0 0 CNT (SH ad ca (uS S 22 2 (tkT S nc m ((lay (S 18 2) (grp S m)).getD i 0) k))) 180 [(0, .int (nI m)), (1, .int (nI left)), (2, .ref (ad 22 0)), (3, .ref (ad 22 1)), (4, .ref (ad 22 2)), (5, .ref (ad 22 3)), (6, .int (nI ((lay (S 18 2) (grp S m)).length))), (7, .int (nI i)), (8, .int (nI (s4 ((lay (S 18 2) (grp S m)).getD i 0)))), (9, .int (nI k))] [] := by
    intro hh hb hl0 i hfar hi hs4 hs10 n
    induction n with
    | zero => intro k h1; omega
    | succ n ih =>
      intro k h1 h2
      have hfin : stN S nc m left = 2 ∧ stA S nc m left = tkA S nc m ((lay (S 18 2) (grp S m)).getD i 0) := by
        unfold stN stA
        rw [hh, decide_eq_false hb, decide_eq_false hl0, hfar]
        exact ⟨rfl, rfl⟩
      have hQ2 : LQ (uS S 22 2 (tkT S nc m ((lay (S 18 2) (grp S m)).getD i 0) k)) ng nm nc t pa rk := LQ_fr hL0.1 (uS_n (fun z => absurd z.2 (by decide)))
      have hC2 : LC (uS S 22 2 (tkT S nc m ((lay (S 18 2) (grp S m)).getD i 0) k)) ng nm nc rk := LC_fr hC (fun i _ => uS_n (fun z => absurd z.1 (by decide))) (uS_n (fun z => absurd z.2 (by decide)))
      have hs := ovl_s (f := S 22 2) (b := 20 * m + 4 * s4 ((lay (S 18 2) (grp S m)).getD i 0)) (n := k) (v := fun k => nI (oP (mTop S nc m ((lay (S 18 2) (grp S m)).getD i 0) k)))
      have et : ∀ k, mTop (uS S 22 2 (tkT S nc m ((lay (S 18 2) (grp S m)).getD i 0) k)) nc m (s10 (s4 ((lay (S 18 2) (grp S m)).getD i 0))) k = mTop S nc m ((lay (S 18 2) (grp S m)).getD i 0) k := fun k => by rw [hs10]; exact mTop_5 (fun i _ => uS_n (fun z => absurd z.1 (by decide)))
      refine g_iload hB 9 dL_steps_180 rfl ?_
      refine g_iconst hB (nI 4) dL_steps_182 rfl ?_
      refine n_icmp_ge hB k 4 218 dL_steps_183 (by decide) (by omega) (by omega) (fun c_183 => ?_) (fun c_183 => ?_)
      · have hk : k = 4 := by omega
        subst hk
        refine g_gh (tkA S nc m ((lay (S 18 2) (grp S m)).getD i 0)) tk_end ?_
        refine g_iconst hB (nI 2) dL_steps_218 rfl ?_
        exact g_iret hB hr rfl (Nat.le_of_ble_eq_true rfl) (Nat.le_of_ble_eq_true rfl) (⟨by rw [hfin.1], by rw [hfin.2]⟩) dL_steps_219
      · refine g_aload hB 4 dL_steps_186 rfl ?_
        refine g_bipush hB (nI 20) dL_steps_188 rfl ?_
        refine g_iload_n hB 0 dL_steps_190 rfl rfl ?_
        refine g_imul hB dL_steps_191 ?_
        refine g_top (nI (20 * m)) (pk_mul _ _) ?_
        refine g_iconst hB (nI 4) dL_steps_192 rfl ?_
        refine g_iload hB 8 dL_steps_193 rfl ?_
        refine g_imul hB dL_steps_195 ?_
        refine g_top (nI (4 * (s4 ((lay (S 18 2) (grp S m)).getD i 0)))) (pk_mul _ _) ?_
        refine g_iadd hB dL_steps_196 ?_
        refine g_top (nI (20 * m + 4 * (s4 ((lay (S 18 2) (grp S m)).getD i 0)))) (nI_add _ _) ?_
        refine g_iload hB 9 dL_steps_197 rfl ?_
        refine g_iadd hB dL_steps_199 ?_
        refine g_top (nI (20 * m + 4 * (s4 ((lay (S 18 2) (grp S m)).getD i 0)) + k)) (nI_add _ _) ?_
        refine g_iload_n hB 0 dL_steps_200 rfl rfl ?_
        refine g_iload hB 8 dL_steps_201 rfl ?_
        refine g_iload hB 9 dL_steps_203 rfl ?_
        refine g_aload_n hB 2 dL_steps_205 rfl rfl ?_
        refine g_aload hB 5 dL_steps_206 rfl ?_
        refine g_callSI hB (c_L_counts _ ng nm nc t pa rk hQ2 hC2 m (s4 ((lay (S 18 2) (grp S m)).getD i 0)) k hm hs4 c_183) k_L_53 yk_L_counts ⟨Nat.le_of_ble_eq_true rfl, Nat.le_of_ble_eq_true rfl⟩ rfl (Nat.le_of_ble_eq_true rfl) ⟨Nat.le_of_ble_eq_true rfl, Nat.le_of_ble_eq_true rfl⟩ dL_steps_208 ?_
        rintro _ _ ⟨rfl, rfl⟩
        refine g_top ((nI (oP (mTop S nc m ((lay (S 18 2) (grp S m)).getD i 0) k)))) (by rw [et]) ?_
        refine s_iast hB 22 2 (20 * m + 4 * (s4 ((lay (S 18 2) (grp S m)).getD i 0)) + k) (n := 60) (by decide) (fun _ => rfl) (by first | assumption | omega) (Nat.le_of_ble_eq_true rfl) dL_steps_211 ?_
        refine g_iinc hB (nI (k + 1)) dL_steps_212 rfl (nI_1 _) (by decide) ?_
        refine g_goto hB 180 dL_steps_215 (by decide) ?_
        refine s_eq _ ?_ (g_sub _ rfl (ih (k + 1) (by omega) (by omega)))
        rw [uM_uS]
        exact congrArg (uS S 22 2) hs
  have loop2 : mHalt S m = false → ∀ (n : Nat), n ≤ (lay (S 18 2) (grp S m)).length → mFar S nc m (grp S m) = farN (fun i => mLag S nc m ((lay (S 18 2) (grp S m)).getD i 0)) n → G p9 l e9 { frames := 3, cells := 0, slots := 0, locals := 77 } s9 m9 a9 b9 me9 c9 D ad A9 12 (MQ b9 (va_Qi (PR ad ca (nI (stN S nc m left)) (stA S nc m left)) (fun E' t => WW D ad CNT A9 E' t.heap) A9) a9 s9 0 0 A9) 0 0 CNT (SH ad ca (S)) 132 [(0, .int (nI m)), (1, .int (nI left)), (2, .ref (ad 22 0)), (3, .ref (ad 22 1)), (4, .ref (ad 22 2)), (5, .ref (ad 22 3)), (6, .int (nI ((lay (S 18 2) (grp S m)).length))), (7, .int (lI n))] [] := by
    intro hh n
    induction n with
    | zero =>
      intro h1 h2
      have h3 : mFar S nc m (grp S m) = 0 := h2
      have hfin : stN S nc m left = 0 ∧ stA S nc m left = S := by
        unfold stN stA
        rw [hh, h3]
        cases decide (S 17 0 1 < S 18 4 m) with
        | true => exact ⟨rfl, rfl⟩
        | false => cases decide (left = 0) <;> exact ⟨rfl, rfl⟩
      refine g_iload hB 7 dL_steps_132 rfl ?_
      refine g_if_lt hB 226 dL_steps_134 (by decide) (fun _ => ?_) (fun z => absurd (by decide) z)
      refine g_iconst hB (nI 0) dL_steps_226 rfl ?_
      exact g_iret hB hr rfl (Nat.le_of_ble_eq_true rfl) (Nat.le_of_ble_eq_true rfl) (⟨by rw [hfin.1], by rw [hfin.2]⟩) dL_steps_227
    | succ n ih =>
      intro h1 h2
      have hs := lay_lt hR hng4 hm (show n < (lay (S 18 2) (grp S m)).length by omega)
      have hs4 := (s10_s4 hs).2
      have hs10 := (s10_s4 hs).1
      have esl : slV S m n = nI (s4 ((lay (S 18 2) (grp S m)).getD n 0)) := slV_in (by omega)
      have hno : (S 17 0 1 < S 18 4 m ∨ left = 0) → stN S nc m left = 0 ∧ stA S nc m left = S := by
        intro z
        unfold stN stA
        rw [hh]
        rcases z with z | z
        · rw [decide_eq_true z]; exact ⟨rfl, rfl⟩
        · cases decide (S 17 0 1 < S 18 4 m) with
          | true => exact ⟨rfl, rfl⟩
          | false => rw [decide_eq_true z]; exact ⟨rfl, rfl⟩
      refine g_iload hB 7 dL_steps_132 rfl ?_
      refine n_if_lt (tgt := 226) hB _ dL_steps_134 (by decide) (by omega) ?_
      refine g_iload_n hB 1 dL_steps_137 rfl rfl ?_
      refine g_if_le hB 226 dL_steps_138 (by decide) (fun c_138 => ?_) (fun c_138 => ?_)
      · have hfin := hno (Or.inr (Classical.byContradiction fun z => by obtain ⟨y, hy⟩ : ∃ y, left = y + 1 := ⟨left - 1, by omega⟩; rw [hy] at c_138; exact eg_le (by omega) c_138))
        refine g_iconst hB (nI 0) dL_steps_226 rfl ?_
        exact g_iret hB hr rfl (Nat.le_of_ble_eq_true rfl) (Nat.le_of_ble_eq_true rfl) (⟨by rw [hfin.1], by rw [hfin.2]⟩) dL_steps_227
      · have hl0 : left ≠ 0 := fun z => by rw [z] at c_138; exact c_138 (by decide)
        refine g_aload_n hB 2 dL_steps_141 rfl rfl ?_
        refine g_iconst hB (nI 0) dL_steps_142 rfl ?_
        refine g_iald hB 22 0 0 (n := 12) (by decide) rfl (by first | assumption | omega) (Nat.le_of_ble_eq_true rfl) dL_steps_143 ?_
        refine g_top (nI (t)) (q0) ?_
        refine g_aload_n hB 3 dL_steps_144 rfl rfl ?_
        refine g_bipush hB (nI 7) dL_steps_145 rfl ?_
        refine g_iload_n hB 0 dL_steps_147 rfl rfl ?_
        refine g_iadd hB dL_steps_148 ?_
        refine g_top (nI (7 + m)) (nI_add _ _) ?_
        refine g_iald hB 22 1 (7 + m) (n := 10) (by decide) rfl (by first | assumption | omega) (Nat.le_of_ble_eq_true rfl) dL_steps_149 ?_
        refine g_icmp_lt hB 226 dL_steps_150 (by decide) (fun c_150 => ?_) (fun c_150 => ?_)
        · have hfin := hno (Or.inl (hbl.mp c_150))
          refine g_iconst hB (nI 0) dL_steps_226 rfl ?_
          exact g_iret hB hr rfl (Nat.le_of_ble_eq_true rfl) (Nat.le_of_ble_eq_true rfl) (⟨by rw [hfin.1], by rw [hfin.2]⟩) dL_steps_227
        · have hb : ¬ S 17 0 1 < S 18 4 m := fun z => c_150 (hbl.mpr z)
          refine g_iload_n hB 0 dL_steps_153 rfl rfl ?_
          refine g_iload hB 7 dL_steps_154 rfl ?_
          refine g_aload_n hB 2 dL_steps_156 rfl rfl ?_
          refine g_aload_n hB 3 dL_steps_157 rfl rfl ?_
          refine g_aload hB 4 dL_steps_158 rfl ?_
          refine g_aload hB 5 dL_steps_160 rfl ?_
          refine g_callSI hB (c_L_lags _ ng nm nc t pa rk hL0 hR m hm n (by omega)) k_L_76 yk_L_lags ⟨Nat.le_of_ble_eq_true rfl, Nat.le_of_ble_eq_true rfl⟩ rfl (Nat.le_of_ble_eq_true rfl) ⟨Nat.le_of_ble_eq_true rfl, Nat.le_of_ble_eq_true rfl⟩ dL_steps_162 ?_
          rintro _ _ ⟨rfl, rfl⟩
          refine b_if_eq hB (mLag S nc m ((lay (S 18 2) (grp S m)).getD n 0)) 220 dL_steps_165 (by decide) (fun c_165 => ?_) (fun c_165 => ?_)
          · have h3 : mFar S nc m (grp S m) = farN (fun i => mLag S nc m ((lay (S 18 2) (grp S m)).getD i 0)) n := by rw [h2, farN]; simp only [c_165]; rfl
            refine g_iinc hB ((lI n)) dL_steps_220 rfl (lI_pred n) (by decide) ?_
            refine g_goto hB 132 dL_steps_223 (by decide) ?_
            exact g_sub _ rfl (ih (by omega) h3)
          · have h3 : mFar S nc m (grp S m) = n + 1 := by rw [h2, farN]; simp only [c_165]; rfl
            refine g_iload_n hB 0 dL_steps_168 rfl rfl ?_
            refine g_iload hB 7 dL_steps_169 rfl ?_
            refine g_aload_n hB 3 dL_steps_171 rfl rfl ?_
            refine g_callSI hB (c_L_slot _ ng nm nc t pa rk hL0 hR m hm n (by omega)) k_L_39 yk_L_slot ⟨Nat.le_of_ble_eq_true rfl, Nat.le_of_ble_eq_true rfl⟩ rfl (Nat.le_of_ble_eq_true rfl) ⟨Nat.le_of_ble_eq_true rfl, Nat.le_of_ble_eq_true rfl⟩ dL_steps_172 ?_
            rintro _ _ ⟨rfl, rfl⟩
            refine g_top (nI (s4 ((lay (S 18 2) (grp S m)).getD n 0))) (esl) ?_
            refine g_istore hB 8 dL_steps_175 (by decide) ?_
            refine g_iconst hB (nI 0) dL_steps_177 rfl ?_
            refine g_istore hB 9 dL_steps_178 (by decide) ?_
            refine s_eq _ ?_ (g_sub _ rfl (take hh hb hl0 n h3 (by omega) hs4 hs10 5 0 (by omega) (by omega)))
            rw [tkT, ovl_0, uS_self]
  have second : mHalt S m = false → G p9 l e9 { frames := 3, cells := 0, slots := 0, locals := 77 } s9 m9 a9 b9 me9 c9 D ad A9 12 (MQ b9 (va_Qi (PR ad ca (nI (stN S nc m left)) (stA S nc m left)) (fun E' t => WW D ad CNT A9 E' t.heap) A9) a9 s9 0 0 A9) 0 0 CNT (SH ad ca (S)) 126 [(0, .int (nI m)), (1, .int (nI left)), (2, .ref (ad 22 0)), (3, .ref (ad 22 1)), (4, .ref (ad 22 2)), (5, .ref (ad 22 3)), (6, .int (nI ((lay (S 18 2) (grp S m)).length)))] [] := by
    intro hh
    refine g_iload hB 6 dL_steps_126 rfl ?_
    refine g_iconst hB (nI 1) dL_steps_128 rfl ?_
    refine g_isub hB dL_steps_129 ?_
    refine g_top ((lI (lay (S 18 2) (grp S m)).length)) (lI_sub _) ?_
    refine g_istore hB 7 dL_steps_130 (by decide) ?_
    exact g_sub _ rfl (loop2 hh _ (Nat.le_refl _) rfl)
  have first : mHalt S m = true → ∀ (n j : Nat), bkF S m - j < n → j ≤ bkF S m → G p9 l e9 { frames := 3, cells := 0, slots := 0, locals := 77 } s9 m9 a9 b9 me9 c9 D ad A9 12 (MQ b9 (va_Qi (PR ad ca (nI (stN S nc m left)) (stA S nc m left)) (fun E' t => WW D ad CNT A9 E' t.heap) A9) a9 s9 0 0 A9) 0 0 CNT (SH ad ca (S)) 21 [(0, .int (nI m)), (1, .int (nI left)), (2, .ref (ad 22 0)), (3, .ref (ad 22 1)), (4, .ref (ad 22 2)), (5, .ref (ad 22 3)), (6, .int (nI ((lay (S 18 2) (grp S m)).length))), (7, .int (nI j))] [] := by
    intro hh
    obtain ⟨hf, hf1⟩ := RI_halt hR hm hh
    obtain ⟨f1, f2, f3⟩ := fstN_some.mp hf
    have hfin : stN S nc m left = 1 ∧ stA S nc m left = bkA S nc m ((lay (S 18 2) (grp S m)).getD (bkF S m) 0) := by
      unfold stN stA
      rw [hh]
      exact ⟨rfl, rfl⟩
    intro n
    induction n with
    | zero => intro j h1; omega
    | succ n ih =>
      intro j h1 h2
      have hjl : j < (lay (S 18 2) (grp S m)).length := by omega
      have hs := lay_lt hR hng4 hm hjl
      have hs4 := (s10_s4 hs).2
      have hs10 := (s10_s4 hs).1
      have esl : slV S m j = nI (s4 ((lay (S 18 2) (grp S m)).getD j 0)) := slV_in hjl
      have hf3 : j < bkF S m → mNhL S m ((lay (S 18 2) (grp S m)).getD j 0) = false := fun z => f3 j z
      have hf2 : j = bkF S m → mNhL S m ((lay (S 18 2) (grp S m)).getD j 0) = true := fun z => by rw [z]; exact f2
      obtain ⟨s, hsd⟩ : ∃ s, s = (lay (S 18 2) (grp S m)).getD j 0 := ⟨_, rfl⟩
      have hfin2 : j = bkF S m → stA S nc m left = bkA S nc m s := fun z => by rw [hfin.2, hsd, z]
      rw [← hsd] at hs hs4 hs10 esl hf3 hf2
      clear hsd
      -- after the inner loop
      have done : G p9 l e9 { frames := 3, cells := 0, slots := 0, locals := 77 } s9 m9 a9 b9 me9 c9 D ad A9 12 (MQ b9 (va_Qi (PR ad ca (nI (stN S nc m left)) (stA S nc m left)) (fun E' t => WW D ad CNT A9 E' t.heap) A9) a9 s9 0 0 A9) 0 0 CNT (SH ad ca (uS S 22 2 (bkT S nc m s 4))) 112 [(0, .int (nI m)), (1, .int (nI left)), (2, .ref (ad 22 0)), (3, .ref (ad 22 1)), (4, .ref (ad 22 2)), (5, .ref (ad 22 3)), (6, .int (nI ((lay (S 18 2) (grp S m)).length))), (7, .int (nI j)), (8, .int (nI (s4 s))), (9, .int (bI (mNhL S m s)))] [] := by
        rcases Nat.lt_or_ge j (bkF S m) with q | q
        · have h0 := hf3 q
          have hno : bkT S nc m s 4 = S 22 2 := by
            funext q'
            unfold bkT
            refine if_neg (fun z => ?_)
            have : mNhL S m s = true := anyB_t.mpr ⟨q' - (20 * m + 4 * s4 s), by omega, z.2.2⟩
            rw [h0] at this
            cases this
          rw [h0, hno, uS_self]
          refine g_iload hB 9 dL_steps_112 rfl ?_
          refine g_iconst hB (nI 1) dL_steps_114 rfl ?_
          refine n_icmp_ne hB 0 1 120 dL_steps_115 (by decide) (by decide) (by decide) (fun _ => ?_) (fun z => absurd z (by decide))
          refine g_iinc hB (nI (j + 1)) dL_steps_120 rfl (nI_1 _) (by decide) ?_
          refine g_goto hB 21 dL_steps_123 (by decide) ?_
          exact g_sub _ rfl (ih (j + 1) (by omega) (by omega))
        · have hjf : j = bkF S m := by omega
          rw [hf2 hjf]
          refine g_gh (bkA S nc m s) bk_end ?_
          refine g_iload hB 9 dL_steps_112 rfl ?_
          refine g_iconst hB (nI 1) dL_steps_114 rfl ?_
          refine n_icmp_ne hB 1 1 120 dL_steps_115 (by decide) (by decide) (by decide) (fun z => absurd z (by decide)) (fun _ => ?_)
          refine g_iconst hB (nI 1) dL_steps_118 rfl ?_
          exact g_iret hB hr rfl (Nat.le_of_ble_eq_true rfl) (Nat.le_of_ble_eq_true rfl) (⟨by rw [hfin.1], by rw [hfin2 hjf]⟩) dL_steps_119
      have inner : ∀ (n' k : Nat) (b : Bool), 4 - k < n' → k ≤ 4 → b = anyB (fun k => nhB S (S 18 5 (6 * (11 * m + s) + k))) k → G p9 l e9 { frames := 3, cells := 0, slots := 0, locals := 77 } s9 m9 a9 b9 me9 c9 D ad A9 12 (MQ b9 (va_Qi (PR ad ca (nI (stN S nc m left)) (stA S nc m left)) (fun E' t => WW D ad CNT A9 E' t.heap) A9) a9 s9 0 0 A9) 0 0 CNT (SH ad ca (uS S 22 2 (bkT S nc m s k))) 43 [(0, .int (nI m)), (1, .int (nI left)), (2, .ref (ad 22 0)), (3, .ref (ad 22 1)), (4, .ref (ad 22 2)), (5, .ref (ad 22 3)), (6, .int (nI ((lay (S 18 2) (grp S m)).length))), (7, .int (nI j)), (8, .int (nI (s4 s))), (9, .int (bI (b))), (10, .int (nI k))] [] := by
        intro n'
        induction n' with
        | zero => intro k b h1; omega
        | succ n' ih' =>
          intro k b h3 h4 hb
          rcases Nat.lt_or_ge k 4 with hk | hk
          · have hold : uS S 22 2 (bkT S nc m s k) 22 2 (20 * m + 4 * s4 s + k) = S 22 2 (20 * m + 4 * s4 s + k) := by rw [uS_s]; exact bkT_at
            have hQ2 : LQ (uS S 22 2 (bkT S nc m s k)) ng nm nc t pa rk := LQ_fr hL0.1 (uS_n (fun z => absurd z.2 (by decide)))
            have hC2 : LC (uS S 22 2 (bkT S nc m s k)) ng nm nc rk := LC_fr hC (fun i _ => uS_n (fun z => absurd z.1 (by decide))) (uS_n (fun z => absurd z.2 (by decide)))
            have et : mTop (uS S 22 2 (bkT S nc m s k)) nc m (s10 (s4 s)) k = mTop S nc m s k := by rw [hs10]; exact mTop_5 (fun i _ => uS_n (fun z => absurd z.1 (by decide)))
            have hx := hT m (by omega) (s4 s) hs4 k hk
            rw [hs10] at hx
            rcases hx with ⟨x1, x2⟩ | ⟨c, hc, x1, x2⟩
            · have e : nhB S (S 18 5 (6 * (11 * m + s) + k)) = false := by unfold nhB; rw [x1]; rfl
              refine g_iload hB 10 dL_steps_43 rfl ?_
              refine g_iconst hB (nI 4) dL_steps_45 rfl ?_
              refine n_icmp_ge hB k 4 112 dL_steps_46 (by decide) (by omega) (by omega) (fun c_46 => ?_) (fun c_46 => ?_)
              · exact absurd c_46 (by omega)
              · refine g_bipush hB (nI 20) dL_steps_49 rfl ?_
                refine g_iload_n hB 0 dL_steps_51 rfl rfl ?_
                refine g_imul hB dL_steps_52 ?_
                refine g_top (nI (20 * m)) (pk_mul _ _) ?_
                refine g_iconst hB (nI 4) dL_steps_53 rfl ?_
                refine g_iload hB 8 dL_steps_54 rfl ?_
                refine g_imul hB dL_steps_56 ?_
                refine g_top (nI (4 * (s4 s))) (pk_mul _ _) ?_
                refine g_iadd hB dL_steps_57 ?_
                refine g_top (nI (20 * m + 4 * (s4 s))) (nI_add _ _) ?_
                refine g_iload hB 10 dL_steps_58 rfl ?_
                refine g_iadd hB dL_steps_60 ?_
                refine g_top (nI (20 * m + 4 * (s4 s) + k)) (nI_add _ _) ?_
                refine g_istore hB 11 dL_steps_61 (by decide) ?_
                refine g_aload hB 4 dL_steps_63 rfl ?_
                refine g_iload hB 11 dL_steps_65 rfl ?_
                refine g_iald hB 22 2 (20 * m + 4 * (s4 s) + k) (n := 60) (by decide) rfl (by first | assumption | omega) (Nat.le_of_ble_eq_true rfl) dL_steps_67 ?_
                refine g_top (nI (0)) (hold.trans x2) ?_
                refine g_if_le hB 106 dL_steps_68 (by decide) (fun _ => ?_) (fun z => absurd (by decide) z)
                refine g_iinc hB (nI (k + 1)) dL_steps_106 rfl (nI_1 _) (by decide) ?_
                refine g_goto hB 43 dL_steps_109 (by decide) ?_
                refine s_eq _ ?_ (g_sub _ rfl (ih' (k + 1) b (by omega) (by omega) (by rw [anyB, ← hb, e, Bool.or_false])))
                exact congrArg (uS S 22 2) (bkT_f e)
            · obtain ⟨p', k', w, st, -, -, -, -, -, a6, b1, b2, b3, b4, b5, b6, b7, b8, -⟩ := hC c hc
              have e0 : nhB S (S 18 5 (6 * (11 * m + s) + k)) = decide (nI st ≠ nI 1) := by unfold nhB; rw [x1, nI_clamp (by omega), b8, decide_eq_true (p := nI c ≠ -1) (m1_ne (by omega)), Bool.true_and]
              have b7' : uS S 22 2 (bkT S nc m s k) 22 3 (5 * c + 3) = nI st := b7
              refine g_iload hB 10 dL_steps_43 rfl ?_
              refine g_iconst hB (nI 4) dL_steps_45 rfl ?_
              refine n_icmp_ge hB k 4 112 dL_steps_46 (by decide) (by omega) (by omega) (fun c_46 => ?_) (fun c_46 => ?_)
              · exact absurd c_46 (by omega)
              · refine g_bipush hB (nI 20) dL_steps_49 rfl ?_
                refine g_iload_n hB 0 dL_steps_51 rfl rfl ?_
                refine g_imul hB dL_steps_52 ?_
                refine g_top (nI (20 * m)) (pk_mul _ _) ?_
                refine g_iconst hB (nI 4) dL_steps_53 rfl ?_
                refine g_iload hB 8 dL_steps_54 rfl ?_
                refine g_imul hB dL_steps_56 ?_
                refine g_top (nI (4 * (s4 s))) (pk_mul _ _) ?_
                refine g_iadd hB dL_steps_57 ?_
                refine g_top (nI (20 * m + 4 * (s4 s))) (nI_add _ _) ?_
                refine g_iload hB 10 dL_steps_58 rfl ?_
                refine g_iadd hB dL_steps_60 ?_
                refine g_top (nI (20 * m + 4 * (s4 s) + k)) (nI_add _ _) ?_
                refine g_istore hB 11 dL_steps_61 (by decide) ?_
                refine g_aload hB 4 dL_steps_63 rfl ?_
                refine g_iload hB 11 dL_steps_65 rfl ?_
                refine g_iald hB 22 2 (20 * m + 4 * (s4 s) + k) (n := 60) (by decide) rfl (by first | assumption | omega) (Nat.le_of_ble_eq_true rfl) dL_steps_67 ?_
                refine g_top (nI (c + 1)) (hold.trans x2) ?_
                refine g_if_le hB 106 dL_steps_68 (by decide) (fun c_68 => ?_) (fun c_68 => ?_)
                · exact absurd c_68 (pos_S (by omega))
                · refine g_aload hB 5 dL_steps_71 rfl ?_
                  refine g_iconst hB (nI 5) dL_steps_73 rfl ?_
                  refine g_aload hB 4 dL_steps_74 rfl ?_
                  refine g_iload hB 11 dL_steps_76 rfl ?_
                  refine g_iald hB 22 2 (20 * m + 4 * (s4 s) + k) (n := 60) (by decide) rfl (by first | assumption | omega) (Nat.le_of_ble_eq_true rfl) dL_steps_78 ?_
                  refine g_top (nI (c + 1)) (hold.trans x2) ?_
                  refine g_imul hB dL_steps_79 ?_
                  refine g_top (nI (5 * (c + 1))) (pk_mul _ _) ?_
                  refine g_iconst hB (nI 2) dL_steps_80 rfl ?_
                  refine g_isub hB dL_steps_81 ?_
                  refine g_top (nI (5 * c + 3)) (sub52) ?_
                  refine g_iald hB 22 3 (5 * c + 3) (n := 60) (by decide) rfl (by first | assumption | omega) (Nat.le_of_ble_eq_true rfl) dL_steps_82 ?_
                  refine g_top (nI (st)) (b7') ?_
                  refine g_iconst hB (nI 1) dL_steps_83 rfl ?_
                  refine n_icmp_eq hB st 1 106 dL_steps_84 (by decide) (by omega) (by omega) (fun c_84 => ?_) (fun c_84 => ?_)
                  · have d_84 : decide (st = 1) = true := decide_eq_true c_84
                    have e : nhB S (S 18 5 (6 * (11 * m + s) + k)) = false := by rw [e0, c_84]; rfl
                    refine g_iinc hB (nI (k + 1)) dL_steps_106 rfl (nI_1 _) (by decide) ?_
                    refine g_goto hB 43 dL_steps_109 (by decide) ?_
                    refine s_eq _ ?_ (g_sub _ rfl (ih' (k + 1) b (by omega) (by omega) (by rw [anyB, ← hb, e, Bool.or_false])))
                    exact congrArg (uS S 22 2) (bkT_f e)
                  · have d_84 : decide (st = 1) = false := decide_eq_false c_84
                    have e : nhB S (S 18 5 (6 * (11 * m + s) + k)) = true := by rw [e0]; exact decide_eq_true (fun z => c_84 ((nI_eq (by omega) (by omega)).mp z))
                    refine g_aload hB 4 dL_steps_87 rfl ?_
                    refine g_iload hB 11 dL_steps_89 rfl ?_
                    refine g_iload_n hB 0 dL_steps_91 rfl rfl ?_
                    refine g_iload hB 8 dL_steps_92 rfl ?_
                    refine g_iload hB 10 dL_steps_94 rfl ?_
                    refine g_aload_n hB 2 dL_steps_96 rfl rfl ?_
                    refine g_aload hB 5 dL_steps_97 rfl ?_
                    refine g_callSI hB (c_L_counts _ ng nm nc t pa rk hQ2 hC2 m (s4 s) k hm hs4 hk) k_L_53 yk_L_counts ⟨Nat.le_of_ble_eq_true rfl, Nat.le_of_ble_eq_true rfl⟩ rfl (Nat.le_of_ble_eq_true rfl) ⟨Nat.le_of_ble_eq_true rfl, Nat.le_of_ble_eq_true rfl⟩ dL_steps_99 ?_
                    rintro _ _ ⟨rfl, rfl⟩
                    refine g_top ((nI (oP (mTop S nc m s k)))) (by rw [et]) ?_
                    refine s_iast hB 22 2 (20 * m + 4 * (s4 s) + k) (n := 60) (by decide) (fun _ => rfl) (by first | assumption | omega) (Nat.le_of_ble_eq_true rfl) dL_steps_102 ?_
                    refine g_iconst hB (nI 1) dL_steps_103 rfl ?_
                    refine g_istore hB 9 dL_steps_104 (by decide) ?_
                    refine g_iinc hB (nI (k + 1)) dL_steps_106 rfl (nI_1 _) (by decide) ?_
                    refine g_goto hB 43 dL_steps_109 (by decide) ?_
                    refine s_eq (uS S 22 2 (bkT S nc m s (k + 1))) ?_ (g_sub [(0, .int (nI m)), (1, .int (nI left)), (2, .ref (ad 22 0)), (3, .ref (ad 22 1)), (4, .ref (ad 22 2)), (5, .ref (ad 22 3)), (6, .int (nI ((lay (S 18 2) (grp S m)).length))), (7, .int (nI j)), (8, .int (nI (s4 s))), (9, .int (bI (true))), (10, .int (nI (k + 1)))] rfl (ih' (k + 1) true (by omega) (by omega) (by rw [anyB, ← hb, e, Bool.or_true])))
                    rw [uM_uS]
                    exact congrArg (uS S 22 2) (bkT_t e)
          · have hk4 : k = 4 := by omega
            subst hk4
            have hbv : b = mNhL S m s := by
              rw [hb]
              unfold mNhL
              have e6 : ∀ f : Nat → Bool, anyB f 6 = (anyB f 4 || f 4 || f 5) := fun f => rfl
              have hz : ∀ k, 4 ≤ k → k < 6 → nhB S (S 18 5 (6 * (11 * m + s) + k)) = false := fun k y4 y6 => by
                have : S 18 5 (6 * (11 * m + s) + k) = -1 := hZ m (by omega) s (by omega) k y6 (Or.inr (Or.inr y4))
                unfold nhB; rw [this]; rfl
              rw [e6, hz 4 (by decide) (by decide), hz 5 (by decide) (by decide), Bool.or_false, Bool.or_false]
            refine g_iload hB 10 dL_steps_43 rfl ?_
            refine g_iconst hB (nI 4) dL_steps_45 rfl ?_
            refine n_icmp_ge hB 4 4 112 dL_steps_46 (by decide) (by decide) (by decide) (fun _ => ?_) (fun z => absurd z (by decide))
            rw [hbv]
            exact g_sub _ rfl done
      refine g_iload hB 7 dL_steps_21 rfl ?_
      refine g_iload hB 6 dL_steps_23 rfl ?_
      refine n_icmp_ge hB j ((lay (S 18 2) (grp S m)).length) 126 dL_steps_25 (by decide) (by omega) (by omega) (fun c_25 => ?_) (fun c_25 => ?_)
      · exact absurd c_25 (by omega)
      · refine g_iload_n hB 0 dL_steps_28 rfl rfl ?_
        refine g_iload hB 7 dL_steps_29 rfl ?_
        refine g_aload_n hB 3 dL_steps_31 rfl rfl ?_
        refine g_callSI hB (c_L_slot _ ng nm nc t pa rk hL0 hR m hm j (Nat.le_of_lt hjl)) k_L_39 yk_L_slot ⟨Nat.le_of_ble_eq_true rfl, Nat.le_of_ble_eq_true rfl⟩ rfl (Nat.le_of_ble_eq_true rfl) ⟨Nat.le_of_ble_eq_true rfl, Nat.le_of_ble_eq_true rfl⟩ dL_steps_32 ?_
        rintro _ _ ⟨rfl, rfl⟩
        refine g_top (nI (s4 s)) (esl) ?_
        refine g_istore hB 8 dL_steps_35 (by decide) ?_
        refine g_iconst hB (nI 0) dL_steps_37 rfl ?_
        refine g_istore hB 9 dL_steps_38 (by decide) ?_
        refine g_iconst hB (nI 0) dL_steps_40 rfl ?_
        refine g_istore hB 10 dL_steps_41 (by decide) ?_
        refine s_eq (uS S 22 2 (bkT S nc m s 0)) (by rw [bkT_0, uS_self]) (g_sub [(0, .int (nI m)), (1, .int (nI left)), (2, .ref (ad 22 0)), (3, .ref (ad 22 1)), (4, .ref (ad 22 2)), (5, .ref (ad 22 3)), (6, .int (nI ((lay (S 18 2) (grp S m)).length))), (7, .int (nI j)), (8, .int (nI (s4 s))), (9, .int (bI (false))), (10, .int (nI 0))] rfl (inner 5 0 false (by omega) (by omega) rfl))
  refine g_iload_n hB 0 dL_steps_0 rfl rfl ?_
  refine g_aload_n hB 3 dL_steps_1 rfl rfl ?_
  refine g_callSI hB (c_L_layers _ ng nm nc t pa rk hL0 hR m hm) k_L_49 yk_L_layers ⟨Nat.le_of_ble_eq_true rfl, Nat.le_of_ble_eq_true rfl⟩ rfl (Nat.le_of_ble_eq_true rfl) ⟨Nat.le_of_ble_eq_true rfl, Nat.le_of_ble_eq_true rfl⟩ dL_steps_2 ?_
  rintro _ _ ⟨rfl, rfl⟩
  refine g_istore hB 6 dL_steps_5 (by decide) ?_
  refine g_iload_n hB 0 dL_steps_7 rfl rfl ?_
  refine g_aload hB 4 dL_steps_8 rfl ?_
  refine g_aload hB 5 dL_steps_10 rfl ?_
  refine g_callSI hB (c_L_stopped _ ng nm nc t pa rk hL0 hR m hm) k_L_61 yk_L_stopped ⟨Nat.le_of_ble_eq_true rfl, Nat.le_of_ble_eq_true rfl⟩ rfl (Nat.le_of_ble_eq_true rfl) ⟨Nat.le_of_ble_eq_true rfl, Nat.le_of_ble_eq_true rfl⟩ dL_steps_12 ?_
  rintro _ _ ⟨rfl, rfl⟩
  refine b_if_eq hB (mHalt S m) 126 dL_steps_15 (by decide) (fun c_15 => ?_) (fun c_15 => ?_)
  · exact g_sub _ rfl (second c_15)
  · refine g_iconst hB (nI 0) dL_steps_18 rfl ?_
    refine g_istore hB 7 dL_steps_19 (by decide) ?_
    exact g_sub _ rfl (first c_15 _ 0 (Nat.lt_succ_self _) (Nat.zero_le _))
end L3
