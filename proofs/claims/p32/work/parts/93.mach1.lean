/-! the law: machines -/
section L12
variable {l : Launch} {D : va_G} {ad : Nat → Nat → Nat} {ca : Nat → ClassId}

theorem c_L_machines_0 (hl : l.stackTraces = false) (S : Mem) (ng nm nc t pa rk mo kk : Nat) (h : INV S ng nm nc t pa rk mo) (hL : LR S ng nm nc t pa rk) (hH : LH S nm t) (ht : t ≤ 60 * kk) (hmo : mo ≤ kk) (hnm0 : 0 < nm) (v : Int32) : CI l yL_machines cL_machines 10 (some .boolean) { frames := 9, cells := 28, slots := 168, locals := 160 } D ad CNT ca SR (SH ad ca S) [.ref (ad 0 0), .int (nI 0), .int (v), .ref (ad 22 0), .ref (ad 22 1), .ref (ad 22 2), .ref (ad 22 3)] (TPP ad ca kk) := by
  have hR := h.2.1
  have hL0 := hL
  obtain ⟨⟨⟨q0, q1, q2, q3, q4, q5⟩, hng1, hng4, hnm3, hnc12, ht20, hrk20, hpa12⟩, hD, hG, hN, hT, hZ, hC, hCz, hA, hGa, hE⟩ := hL
  have hbd := qv_bd h
  have hTI : TI S kk := ⟨ng, nm, nc, t, pa, rk, mo, h, hL0, hH, ht, hmo⟩
  refine CI.of _ RL (by decide +kernel) rfl (Nat.le_of_ble_eq_true rfl) ?_
  intro p9 e9 s9 m9 a9 b9 me9 c9 A9 hB hr hnm9
  have mid : ∀ (m d : Nat), m < nm → 1 ≤ d → d ≤ 30 → G p9 l e9 { frames := 9, cells := 28, slots := 168, locals := 160 } s9 m9 a9 b9 me9 c9 D ad A9 10 (MQ b9 (va_Qi (TPP ad ca kk) (fun E' t => WW D ad CNT A9 E' t.heap) A9) a9 s9 28 168 A9) 0 0 CNT (SH ad ca (S)) 40 [(0, .ref (ad 0 0)), (1, .int (nI 0)), (2, .int (v)), (3, .ref (ad 22 0)), (4, .ref (ad 22 1)), (5, .ref (ad 22 2)), (6, .ref (ad 22 3)), (7, .int (nI m)), (8, .int (nI d))] [] := by
    intro m d hm h1 h30
    have hbl := busy_lt hL0 hR hm
    have hwo := woC_is h hm h1 h30
    have no : (decide (S 17 0 1 < S 18 4 m) || mHalt S m) = true → G p9 l e9 { frames := 9, cells := 28, slots := 168, locals := 160 } s9 m9 a9 b9 me9 c9 D ad A9 10 (MQ b9 (va_Qi (TPP ad ca kk) (fun E' t => WW D ad CNT A9 E' t.heap) A9) a9 s9 28 168 A9) 0 0 CNT (SH ad ca (S)) 73 [(0, .ref (ad 0 0)), (1, .int (nI 0)), (2, .int (v)), (3, .ref (ad 22 0)), (4, .ref (ad 22 1)), (5, .ref (ad 22 2)), (6, .ref (ad 22 3)), (7, .int (nI m)), (8, .int (nI d)), (9, .int (nI 0))] [] := by
      intro hb
      rw [hb] at hwo
      have hwo : woC S (nI m) (nI d) nm nc = 3 := hwo
      refine g_aload hB 4 dL_machines_73 rfl ?_
      refine g_bipush hB (nI 7) dL_machines_75 rfl ?_
      refine g_iload hB 7 dL_machines_77 rfl ?_
      refine g_iadd hB dL_machines_79 ?_
      refine g_top (nI (7 + m)) (nI_add _ _) ?_
      refine g_iload hB 9 dL_machines_80 rfl ?_
      refine g_if_eq hB 94 dL_machines_82 (by decide) (fun _ => ?_) (fun z => absurd rfl z)
      refine g_aload hB 4 dL_machines_94 rfl ?_
      refine g_bipush hB (nI 7) dL_machines_96 rfl ?_
      refine g_iload hB 7 dL_machines_98 rfl ?_
      refine g_iadd hB dL_machines_100 ?_
      refine g_top (nI (7 + m)) (nI_add _ _) ?_
      refine g_iald hB 22 1 (7 + m) (n := 10) (by decide) rfl (by first | assumption | omega) (Nat.le_of_ble_eq_true rfl) dL_machines_101 ?_
      refine g_top ((S 22 1 (7 + m))) (rfl) ?_
      refine s_iast hB 22 1 (7 + m) (n := 10) (by decide) (fun _ => rfl) (by first | assumption | omega) (Nat.le_of_ble_eq_true rfl) dL_machines_102 ?_
      refine s_eq S uM_self ?_
      refine g_aload_n hB 0 dL_machines_103 rfl rfl ?_
      refine g_iconst hB (nI 3) dL_machines_104 rfl ?_
      refine g_iload hB 7 dL_machines_105 rfl ?_
      refine g_iload hB 8 dL_machines_107 rfl ?_
      refine g_iconst hB (nI 0) dL_machines_109 rfl ?_
      refine g_iconst hB (nI 0) dL_machines_110 rfl ?_
      refine g_callHSI hB (c_L_calls_work hl _ ng nm nc t pa h.1 _ _ (by rw [hwo]; decide) (by rw [hwo]; decide)) k_L_139 yk_L_calls ⟨Nat.le_of_ble_eq_true rfl, Nat.le_of_ble_eq_true rfl⟩ rfl (Nat.le_of_ble_eq_true rfl) ⟨Nat.le_of_ble_eq_true rfl, Nat.le_of_ble_eq_true rfl⟩ dL_machines_111 ?_
      rintro _ _ ⟨rfl, rfl⟩
      refine g_top ((-3)) (by rw [hwo]; rfl) ?_
      refine g_iload hB 9 dL_machines_114 rfl ?_
      refine g_if_eq hB 130 dL_machines_116 (by decide) (fun _ => ?_) (fun z => absurd rfl z)
      refine g_bipush hB (-3) dL_machines_130 rfl ?_
      refine g_icmp_ne hB 139 dL_machines_132 (by decide) (fun c_132 => ?_) (fun c_132 => ?_)
      · exact absurd rfl c_132
      · refine g_iconst hB (nI 1) dL_machines_135 rfl ?_
        refine g_goto hB 140 dL_machines_136 (by decide) ?_
        exact g_iret hB hr rfl (Nat.le_of_ble_eq_true rfl) (Nat.le_of_ble_eq_true rfl) (⟨_, rfl, rfl, by rw [hwo]; exact TI_s hTI⟩) dL_machines_140
    have yes : decide (S 17 0 1 < S 18 4 m) = false → mHalt S m = false → G p9 l e9 { frames := 9, cells := 28, slots := 168, locals := 160 } s9 m9 a9 b9 me9 c9 D ad A9 10 (MQ b9 (va_Qi (TPP ad ca kk) (fun E' t => WW D ad CNT A9 E' t.heap) A9) a9 s9 28 168 A9) 0 0 CNT (SH ad ca (S)) 73 [(0, .ref (ad 0 0)), (1, .int (nI 0)), (2, .int (v)), (3, .ref (ad 22 0)), (4, .ref (ad 22 1)), (5, .ref (ad 22 2)), (6, .ref (ad 22 3)), (7, .int (nI m)), (8, .int (nI d)), (9, .int (nI 1))] [] := by
      intro hb hh
      rw [hb, hh] at hwo
      have hwo : woC (woA S m (t + d)) (nI m) (nI d) nm nc = 0 := hwo
      have hT := TI_wo h hL0 hH ht hmo hm h1 h30 hb hh
      have hKI : KI (woA S m (t + d)) ng nm nc t pa := h.1
      have e0 : woA S m (t + d) 0 0 0 + nI d = nI (t + d) := by rw [show woA S m (t + d) 0 0 0 = nI t from h.1.2.2.2.1.1, nI_add]
      refine g_aload hB 4 dL_machines_73 rfl ?_
      refine g_bipush hB (nI 7) dL_machines_75 rfl ?_
      refine g_iload hB 7 dL_machines_77 rfl ?_
      refine g_iadd hB dL_machines_79 ?_
      refine g_top (nI (7 + m)) (nI_add _ _) ?_
      refine g_iload hB 9 dL_machines_80 rfl ?_
      refine g_if_eq hB 94 dL_machines_82 (by decide) (fun z => absurd z (by decide)) (fun _ => ?_)
      refine g_aload_n hB 3 dL_machines_85 rfl rfl ?_
      refine g_iconst hB (nI 0) dL_machines_86 rfl ?_
      refine g_iald hB 22 0 0 (n := 12) (by decide) rfl (by first | assumption | omega) (Nat.le_of_ble_eq_true rfl) dL_machines_87 ?_
      refine g_top (nI (t)) (q0) ?_
      refine g_iload hB 8 dL_machines_88 rfl ?_
      refine g_iadd hB dL_machines_90 ?_
      refine g_top (nI (t + d)) (nI_add _ _) ?_
      refine g_goto hB 102 dL_machines_91 (by decide) ?_
      refine s_iast hB 22 1 (7 + m) (n := 10) (by decide) (fun _ => rfl) (by first | assumption | omega) (Nat.le_of_ble_eq_true rfl) dL_machines_102 ?_
      refine g_gh (woA S m (t + d)) woA_gh ?_
      refine g_aload_n hB 0 dL_machines_103 rfl rfl ?_
      refine g_iconst hB (nI 3) dL_machines_104 rfl ?_
      refine g_iload hB 7 dL_machines_105 rfl ?_
      refine g_iload hB 8 dL_machines_107 rfl ?_
      refine g_iconst hB (nI 0) dL_machines_109 rfl ?_
      refine g_iconst hB (nI 0) dL_machines_110 rfl ?_
      refine g_callHSI hB (c_L_calls_work hl _ ng nm nc t pa hKI _ _ (by rw [hwo]; decide) (by rw [hwo]; decide)) k_L_139 yk_L_calls ⟨Nat.le_of_ble_eq_true rfl, Nat.le_of_ble_eq_true rfl⟩ rfl (Nat.le_of_ble_eq_true rfl) ⟨Nat.le_of_ble_eq_true rfl, Nat.le_of_ble_eq_true rfl⟩ dL_machines_111 ?_
      rintro _ _ ⟨rfl, rfl⟩
      refine g_top (nI (t + d)) (by rw [hwo]; exact e0) ?_
      refine g_iload hB 9 dL_machines_114 rfl ?_
      refine g_if_eq hB 130 dL_machines_116 (by decide) (fun z => absurd z (by decide)) (fun _ => ?_)
      refine g_aload hB 4 dL_machines_119 rfl ?_
      refine g_bipush hB (nI 7) dL_machines_121 rfl ?_
      refine g_iload hB 7 dL_machines_123 rfl ?_
      refine g_iadd hB dL_machines_125 ?_
      refine g_top (nI (7 + m)) (nI_add _ _) ?_
      refine g_iald hB 22 1 (7 + m) (n := 10) (by decide) rfl (by first | assumption | omega) (Nat.le_of_ble_eq_true rfl) dL_machines_126 ?_
      refine g_top (nI (t + d)) (by rw [hwo]; show uM (woA S m (t + d)) 6 (ix (nI m)) 2 (woA S m (t + d) 0 0 0 + nI d) 22 1 (7 + m) = nI (t + d); simp [woA, uM_ap]) ?_
      refine g_goto hB 132 dL_machines_127 (by decide) ?_
      refine n_icmp_ne hB (t + d) (t + d) 139 dL_machines_132 (by decide) (by omega) (by omega) (fun c_132 => ?_) (fun c_132 => ?_)
      · have d_132 : decide (t + d = t + d) = false := decide_eq_false c_132
        exact absurd rfl c_132
      · have d_132 : decide (t + d = t + d) = true := decide_eq_true c_132
        refine g_iconst hB (nI 1) dL_machines_135 rfl ?_
        refine g_goto hB 140 dL_machines_136 (by decide) ?_
        exact g_iret hB hr rfl (Nat.le_of_ble_eq_true rfl) (Nat.le_of_ble_eq_true rfl) (⟨_, rfl, rfl, by rw [hwo, e0, ix_nI (by omega)]; exact hT⟩) dL_machines_140
    refine g_aload_n hB 3 dL_machines_40 rfl rfl ?_
    refine g_iconst hB (nI 0) dL_machines_41 rfl ?_
    refine g_iald hB 22 0 0 (n := 12) (by decide) rfl (by first | assumption | omega) (Nat.le_of_ble_eq_true rfl) dL_machines_42 ?_
    refine g_top (nI (t)) (q0) ?_
    refine g_aload hB 4 dL_machines_43 rfl ?_
    refine g_bipush hB (nI 7) dL_machines_45 rfl ?_
    refine g_iload hB 7 dL_machines_47 rfl ?_
    refine g_iadd hB dL_machines_49 ?_
    refine g_top (nI (7 + m)) (nI_add _ _) ?_
    refine g_iald hB 22 1 (7 + m) (n := 10) (by decide) rfl (by first | assumption | omega) (Nat.le_of_ble_eq_true rfl) dL_machines_50 ?_
    refine g_icmp_lt hB 70 dL_machines_51 (by decide) (fun c_51 => ?_) (fun c_51 => ?_)
    · have hb : decide (S 17 0 1 < S 18 4 m) = true := decide_eq_true (hbl.mp c_51)
      refine g_iconst hB (nI 0) dL_machines_70 rfl ?_
      refine g_istore hB 9 dL_machines_71 (by decide) ?_
      exact g_sub _ rfl (no (by rw [hb]; rfl))
    · have hb : decide (S 17 0 1 < S 18 4 m) = false := decide_eq_false (fun z => c_51 (hbl.mpr z))
      refine g_iload hB 7 dL_machines_54 rfl ?_
      refine g_aload hB 5 dL_machines_56 rfl ?_
      refine g_aload hB 6 dL_machines_58 rfl ?_
      refine g_callSI hB (c_L_stopped _ ng nm nc t pa rk hL0 hR m hm) k_L_61 yk_L_stopped ⟨Nat.le_of_ble_eq_true rfl, Nat.le_of_ble_eq_true rfl⟩ rfl (Nat.le_of_ble_eq_true rfl) ⟨Nat.le_of_ble_eq_true rfl, Nat.le_of_ble_eq_true rfl⟩ dL_machines_60 ?_
      rintro _ _ ⟨rfl, rfl⟩
      refine b_if_ne hB (mHalt S m) 70 dL_machines_63 (by decide) (fun c_63 => ?_) (fun c_63 => ?_)
      · refine g_iconst hB (nI 0) dL_machines_70 rfl ?_
        refine g_istore hB 9 dL_machines_71 (by decide) ?_
        exact g_sub _ rfl (no (by rw [c_63, Bool.or_true]))
      · refine g_iconst hB (nI 1) dL_machines_66 rfl ?_
        refine g_goto hB 71 dL_machines_67 (by decide) ?_
        refine g_istore hB 9 dL_machines_71 (by decide) ?_
        exact g_sub _ rfl (yes hb c_63)
  refine g_iload_n hB 2 dL_machines_0 rfl rfl ?_
  refine g_aload_n hB 3 dL_machines_1 rfl rfl ?_
  refine g_iconst hB (nI 3) dL_machines_2 rfl ?_
  refine g_iald hB 22 0 3 (n := 12) (by decide) rfl (by first | assumption | omega) (Nat.le_of_ble_eq_true rfl) dL_machines_3 ?_
  refine g_top (nI (nm)) (q3) ?_
  refine g_callSI hB (c_L_low _ _ _ (by omega) (by omega)) k_L_125 yk_L_low ⟨Nat.le_of_ble_eq_true rfl, Nat.le_of_ble_eq_true rfl⟩ rfl (Nat.le_of_ble_eq_true rfl) ⟨Nat.le_of_ble_eq_true rfl, Nat.le_of_ble_eq_true rfl⟩ dL_machines_4 ?_
  rintro _ _ ⟨m, hm, rfl, rfl⟩
  refine g_istore hB 7 dL_machines_7 (by decide) ?_
  refine g_iload_n hB 1 dL_machines_9 rfl rfl ?_
  refine g_if_ne hB 141 dL_machines_10 (by decide) (fun z => absurd rfl z) (fun _ => ?_)
  refine g_iconst hB (nI 1) dL_machines_13 rfl ?_
  refine g_iload_n hB 2 dL_machines_14 rfl rfl ?_
  refine g_iconst hB (nI 3) dL_machines_15 rfl ?_
  refine g_ishr hB dL_machines_16 ?_
  refine g_iload_n hB 2 dL_machines_17 rfl rfl ?_
  refine g_bipush hB (nI 9) dL_machines_18 rfl ?_
  refine g_ishr hB dL_machines_20 ?_
  refine g_iconst hB (nI 3) dL_machines_21 rfl ?_
  refine g_callSI hB (c_L_low _ _ _ (by omega) (by omega)) k_L_125 yk_L_low ⟨Nat.le_of_ble_eq_true rfl, Nat.le_of_ble_eq_true rfl⟩ rfl (Nat.le_of_ble_eq_true rfl) ⟨Nat.le_of_ble_eq_true rfl, Nat.le_of_ble_eq_true rfl⟩ dL_machines_22 ?_
  rintro _ _ ⟨z, hz, rfl, rfl⟩
  refine g_if_ne hB 33 dL_machines_25 (by decide) (fun c_25 => ?_) (fun c_25 => ?_)
  · refine g_iconst hB (nI 4) dL_machines_33 rfl ?_
    refine g_callSI hB (c_L_low _ _ _ (by omega) (by omega)) k_L_125 yk_L_low ⟨Nat.le_of_ble_eq_true rfl, Nat.le_of_ble_eq_true rfl⟩ rfl (Nat.le_of_ble_eq_true rfl) ⟨Nat.le_of_ble_eq_true rfl, Nat.le_of_ble_eq_true rfl⟩ dL_machines_34 ?_
    rintro _ _ ⟨y, hy, rfl, rfl⟩
    refine g_iadd hB dL_machines_37 ?_
    refine g_top (nI (1 + y)) (nI_add _ _) ?_
    refine g_istore hB 8 dL_machines_38 (by decide) ?_
    exact g_sub _ rfl (mid m (1 + y) hm (by omega) (by omega))
  · refine g_bipush hB (nI 30) dL_machines_28 rfl ?_
    refine g_goto hB 34 dL_machines_30 (by decide) ?_
    refine g_callSI hB (c_L_low _ _ _ (by omega) (by omega)) k_L_125 yk_L_low ⟨Nat.le_of_ble_eq_true rfl, Nat.le_of_ble_eq_true rfl⟩ rfl (Nat.le_of_ble_eq_true rfl) ⟨Nat.le_of_ble_eq_true rfl, Nat.le_of_ble_eq_true rfl⟩ dL_machines_34 ?_
    rintro _ _ ⟨y, hy, rfl, rfl⟩
    refine g_iadd hB dL_machines_37 ?_
    refine g_top (nI (1 + y)) (nI_add _ _) ?_
    refine g_istore hB 8 dL_machines_38 (by decide) ?_
    exact g_sub _ rfl (mid m (1 + y) hm (by omega) (by omega))
theorem c_L_machines_1 (hl : l.stackTraces = false) (S : Mem) (ng nm nc t pa rk mo kk : Nat) (h : INV S ng nm nc t pa rk mo) (hL : LR S ng nm nc t pa rk) (hH : LH S nm t) (ht : t ≤ 60 * kk) (hmo : mo ≤ kk) (hnm0 : 0 < nm) (v : Int32) : CI l yL_machines cL_machines 10 (some .boolean) { frames := 9, cells := 28, slots := 168, locals := 160 } D ad CNT ca SR (SH ad ca S) [.ref (ad 0 0), .int (nI 1), .int (v), .ref (ad 22 0), .ref (ad 22 1), .ref (ad 22 2), .ref (ad 22 3)] (TPP ad ca kk) := by
  have hR := h.2.1
  have hL0 := hL
  obtain ⟨⟨⟨q0, q1, q2, q3, q4, q5⟩, hng1, hng4, hnm3, hnc12, ht20, hrk20, hpa12⟩, hD, hG, hN, hT, hZ, hC, hCz, hA, hGa, hE⟩ := hL
  have hbd := qv_bd h
  have hTI : TI S kk := ⟨ng, nm, nc, t, pa, rk, mo, h, hL0, hH, ht, hmo⟩
  refine CI.of _ RL (by decide +kernel) rfl (Nat.le_of_ble_eq_true rfl) ?_
  intro p9 e9 s9 m9 a9 b9 me9 c9 A9 hB hr hnm9
  have mid : ∀ (m g : Nat), m < nm → g < ng → G p9 l e9 { frames := 9, cells := 28, slots := 168, locals := 160 } s9 m9 a9 b9 me9 c9 D ad A9 10 (MQ b9 (va_Qi (TPP ad ca kk) (fun E' t => WW D ad CNT A9 E' t.heap) A9) a9 s9 28 168 A9) 0 0 CNT (SH ad ca (S)) 152 [(0, .ref (ad 0 0)), (1, .int (nI 1)), (2, .int (v)), (3, .ref (ad 22 0)), (4, .ref (ad 22 1)), (5, .ref (ad 22 2)), (6, .ref (ad 22 3)), (7, .int (nI m)), (8, .int (nI g))] [] := by
    intro m g hm hg
    have hmm := mmC_is h hm hg
    cases hb : decide (S 17 0 1 < S 18 4 m) with
    | true =>
      rw [hb] at hmm
      have hmm : mmC S (nI m) (nI g) ng nm = 2 := hmm
      refine g_aload_n hB 0 dL_machines_152 rfl rfl ?_
      refine g_iconst hB (nI 4) dL_machines_153 rfl ?_
      refine g_iload hB 7 dL_machines_154 rfl ?_
      refine g_iload hB 8 dL_machines_156 rfl ?_
      refine g_iconst hB (nI 0) dL_machines_158 rfl ?_
      refine g_iconst hB (nI 0) dL_machines_159 rfl ?_
      refine g_callHSI hB (c_L_calls_move hl _ ng nm nc t pa h.1 _ _ (by rw [hmm]; decide)) k_L_139 yk_L_calls ⟨Nat.le_of_ble_eq_true rfl, Nat.le_of_ble_eq_true rfl⟩ rfl (Nat.le_of_ble_eq_true rfl) ⟨Nat.le_of_ble_eq_true rfl, Nat.le_of_ble_eq_true rfl⟩ dL_machines_160 ?_
      rintro _ _ ⟨rfl, rfl⟩
      refine g_top ((-3)) (by rw [hmm]; rfl) ?_
      refine s_eq S (by rw [hmm]; rfl) ?_
      refine g_iload hB 7 dL_machines_163 rfl ?_
      refine g_iload hB 8 dL_machines_165 rfl ?_
      refine g_aload_n hB 3 dL_machines_167 rfl rfl ?_
      refine g_aload hB 4 dL_machines_168 rfl ?_
      refine g_aload hB 5 dL_machines_170 rfl ?_
      refine g_callSI hB (c_L_moves _ ng nm nc t pa rk hL0 hR m g hm hg) k_L_153 yk_L_moves ⟨Nat.le_of_ble_eq_true rfl, Nat.le_of_ble_eq_true rfl⟩ rfl (Nat.le_of_ble_eq_true rfl) ⟨Nat.le_of_ble_eq_true rfl, Nat.le_of_ble_eq_true rfl⟩ dL_machines_172 ?_
      rintro _ _ ⟨rfl, rfl⟩
      refine g_top ((-3)) (by rw [hb]; rfl) ?_
      refine g_icmp_ne hB 182 dL_machines_175 (by decide) (fun c_175 => ?_) (fun c_175 => ?_)
      · exact absurd rfl c_175
      · refine g_iconst hB (nI 1) dL_machines_178 rfl ?_
        refine g_goto hB 183 dL_machines_179 (by decide) ?_
        exact g_iret hB hr rfl (Nat.le_of_ble_eq_true rfl) (Nat.le_of_ble_eq_true rfl) (⟨_, rfl, rfl, by rw [hb]; exact TI_s hTI⟩) dL_machines_183
    | false =>
      rw [hb] at hmm
      have hmm : mmC S (nI m) (nI g) ng nm = 0 := hmm
      have hT := TI_mv h hL0 hH ht hmo hm hg hb
      have hb2 : decide (mvB S m g 17 0 1 < mvB S m g 18 4 m) = false := by rw [mvB_17 (by decide), mvB_18]; exact hb
      have e63 : S 6 m 1 = S 18 3 m := ((h.2.2.2.2.2.2.1 m (by omega)).1 hm).1
      have hLB : LR (mvB S m g) ng nm nc t pa rk := LR_fr hL0 mvB_18 mvB_22
      have hRB : RI (mvB S m g) ng nm nc t pa := RI_mvB hR
      refine g_aload_n hB 0 dL_machines_152 rfl rfl ?_
      refine g_iconst hB (nI 4) dL_machines_153 rfl ?_
      refine g_iload hB 7 dL_machines_154 rfl ?_
      refine g_iload hB 8 dL_machines_156 rfl ?_
      refine g_iconst hB (nI 0) dL_machines_158 rfl ?_
      refine g_iconst hB (nI 0) dL_machines_159 rfl ?_
      refine g_callHSI hB (c_L_calls_move hl _ ng nm nc t pa h.1 _ _ (by rw [hmm]; decide)) k_L_139 yk_L_calls ⟨Nat.le_of_ble_eq_true rfl, Nat.le_of_ble_eq_true rfl⟩ rfl (Nat.le_of_ble_eq_true rfl) ⟨Nat.le_of_ble_eq_true rfl, Nat.le_of_ble_eq_true rfl⟩ dL_machines_160 ?_
      rintro _ _ ⟨rfl, rfl⟩
      refine g_top ((S 18 3 m)) (by rw [hmm, ix_nI (by omega)]; exact e63) ?_
      refine s_eq (egM S m (10 + m) g) (by rw [hmm, ix_nI (by omega), ix_nI (by omega)]; rfl) ?_
      refine g_gh (mvB S m g) mvB_gh ?_
      refine g_iload hB 7 dL_machines_163 rfl ?_
      refine g_iload hB 8 dL_machines_165 rfl ?_
      refine g_aload_n hB 3 dL_machines_167 rfl rfl ?_
      refine g_aload hB 4 dL_machines_168 rfl ?_
      refine g_aload hB 5 dL_machines_170 rfl ?_
      refine g_callSI hB (c_L_moves _ ng nm nc t pa rk hLB hRB m g hm hg) k_L_153 yk_L_moves ⟨Nat.le_of_ble_eq_true rfl, Nat.le_of_ble_eq_true rfl⟩ rfl (Nat.le_of_ble_eq_true rfl) ⟨Nat.le_of_ble_eq_true rfl, Nat.le_of_ble_eq_true rfl⟩ dL_machines_172 ?_
      rintro _ _ ⟨rfl, rfl⟩
      refine g_top ((S 18 3 m)) (by rw [hb2, mvB_18]; rfl) ?_
      refine g_icmp_ne hB 182 dL_machines_175 (by decide) (fun c_175 => ?_) (fun c_175 => ?_)
      · exact absurd rfl c_175
      · refine g_iconst hB (nI 1) dL_machines_178 rfl ?_
        refine g_goto hB 183 dL_machines_179 (by decide) ?_
        exact g_iret hB hr rfl (Nat.le_of_ble_eq_true rfl) (Nat.le_of_ble_eq_true rfl) (⟨_, rfl, rfl, by rw [hb2]; exact hT⟩) dL_machines_183
  refine g_iload_n hB 2 dL_machines_0 rfl rfl ?_
  refine g_aload_n hB 3 dL_machines_1 rfl rfl ?_
  refine g_iconst hB (nI 3) dL_machines_2 rfl ?_
  refine g_iald hB 22 0 3 (n := 12) (by decide) rfl (by first | assumption | omega) (Nat.le_of_ble_eq_true rfl) dL_machines_3 ?_
  refine g_top (nI (nm)) (q3) ?_
  refine g_callSI hB (c_L_low _ _ _ (by omega) (by omega)) k_L_125 yk_L_low ⟨Nat.le_of_ble_eq_true rfl, Nat.le_of_ble_eq_true rfl⟩ rfl (Nat.le_of_ble_eq_true rfl) ⟨Nat.le_of_ble_eq_true rfl, Nat.le_of_ble_eq_true rfl⟩ dL_machines_4 ?_
  rintro _ _ ⟨m, hm, rfl, rfl⟩
  refine g_istore hB 7 dL_machines_7 (by decide) ?_
  refine g_iload_n hB 1 dL_machines_9 rfl rfl ?_
  refine g_if_ne hB 141 dL_machines_10 (by decide) (fun _ => ?_) (fun z => absurd z (by decide))
  refine g_iload_n hB 2 dL_machines_141 rfl rfl ?_
  refine g_iconst hB (nI 3) dL_machines_142 rfl ?_
  refine g_ishr hB dL_machines_143 ?_
  refine g_aload_n hB 3 dL_machines_144 rfl rfl ?_
  refine g_iconst hB (nI 2) dL_machines_145 rfl ?_
  refine g_iald hB 22 0 2 (n := 12) (by decide) rfl (by first | assumption | omega) (Nat.le_of_ble_eq_true rfl) dL_machines_146 ?_
  refine g_top (nI (ng)) (q2) ?_
  refine g_callSI hB (c_L_low _ _ _ (by omega) (by omega)) k_L_125 yk_L_low ⟨Nat.le_of_ble_eq_true rfl, Nat.le_of_ble_eq_true rfl⟩ rfl (Nat.le_of_ble_eq_true rfl) ⟨Nat.le_of_ble_eq_true rfl, Nat.le_of_ble_eq_true rfl⟩ dL_machines_147 ?_
  rintro _ _ ⟨g, hg, rfl, rfl⟩
  refine g_istore hB 8 dL_machines_150 (by decide) ?_
  exact g_sub _ rfl (mid m g hm hg)
end L12
