/-! the reference: leaving, days -/
section M7
variable {l : Launch} {D : va_G} {ad : Nat → Nat → Nat} {ca : Nat → ClassId} {SR : List (String × Nat × String)}

theorem c_X6_voids (S : Mem) (p nc nm : Nat) (hc : S 17 0 11 = nI nc) (hnc : nc ≤ 40) (hm : S 17 0 6 = nI nm) (hnm : nm ≤ 12) (hp8 : p < 8) (hT : TK S) : CI l yX6_voids cX6_voids 6 (some .int) { frames := 2, cells := 0, slots := 0, locals := 45 } D ad CNT ca SR (SH ad ca S) [.ref (ad 17 0), .int (nI p)] (PR ad ca (nI (vCnt S p nc)) (rVoidM S p nc nm)) := by
  have hfr : ∀ n k i, ¬ vScr k i → vMem S p n k i = S k i := fun n k i h => vMem_fr h n
  have hc' : ∀ n, vMem S p n 17 0 11 = nI nc := fun n => by rw [hfr n 17 0 (fun z => by cases z.1)]; exact hc
  have hm' : ∀ n, vMem S p n 17 0 6 = nI nm := fun n => by rw [hfr n 17 0 (fun z => by cases z.1)]; exact hm
  have hT' : ∀ n, TK (vMem S p n) := fun n q hq => by rw [hfr n 18 5 (fun z => by rcases z.2 with z | z <;> cases z)]; exact hT q hq
  refine CI.of _ RX6 (by decide +kernel) rfl (Nat.le_of_ble_eq_true rfl) ?_
  intro p9 e9 s9 m9 a9 b9 me9 c9 A9 hB hr hnm9
  have last : ∀ (n k : Nat), nm - k < n → k ≤ nm → G p9 l e9 { frames := 2, cells := 0, slots := 0, locals := 45 } s9 m9 a9 b9 me9 c9 D ad A9 6 (MQ b9 (va_Qi (PR ad ca (nI (vCnt S p nc)) (rVoidM S p nc nm)) (fun E' t => WW D ad CNT A9 E' t.heap) A9) a9 s9 0 0 A9) 0 0 CNT (SH ad ca (uS (vMem S p nc) 18 4 (ovl (vMem S p nc 18 4) 0 k (fun m => bif mHalt (vMem S p nc) m then vMem S p nc 17 0 1 else vMem S p nc 18 4 m)))) 158 [(0, .ref (ad 17 0)), (1, .int (nI p)), (2, .int (nI (vCnt S p nc))), (3, .int (nI k))] [] := by
    intro n
    have hm1 := hm' nc
    have hT1 := hT' nc
    generalize hV : vMem S p nc = V at hm1 hT1 ⊢
    have hfin : rVoidM S p nc nm = uS V 18 4 (vUnt V nm) := by unfold rVoidM; rw [hV]
    rw [hfin]
    induction n with
    | zero => intro k h1; omega
    | succ n ih =>
      intro k h1 h2
      refine g_iload_n hB 3 dX6_voids_158 rfl rfl ?_
      refine g_aload_n hB 0 dX6_voids_159 rfl rfl ?_
      refine g_get (ci := 6) (T := TX6) (N := 26) hB in_X6 rfl 17 0 6 (by decide) (by decide) rfl tw_fl_X6_81 rfl dX6_voids_160 ?_
      refine g_top (nI nm) (hm1) ?_
      refine n_icmp_ge hB k nm 199 dX6_voids_163 (by decide) (by omega) (by omega) (fun c_163 => ?_) (fun c_163 => ?_)
      · have hk : k = nm := by omega
        subst hk
        refine g_iload_n hB 2 dX6_voids_199 rfl rfl ?_
        exact g_iret hB hr rfl (Nat.le_of_ble_eq_true rfl) (Nat.le_of_ble_eq_true rfl) (⟨rfl, rfl⟩) dX6_voids_200
      · refine g_aload_n hB 0 dX6_voids_166 rfl rfl ?_
        refine g_get (ci := 6) (T := TX6) (N := 26) hB in_X6 rfl 17 0 9 (by decide) (by decide) rfl tw_fl_X6_29 rfl dX6_voids_167 ?_
        refine g_iload_n hB 3 dX6_voids_170 rfl rfl ?_
        refine g_aload_n hB 0 dX6_voids_171 rfl rfl ?_
        refine g_iload_n hB 3 dX6_voids_172 rfl rfl ?_
        refine g_callVI hB (c_X6_isHalted _ k (by omega) hT1) k_X6_118 rfl yk_X6_isHalted ⟨Nat.le_of_ble_eq_true rfl, Nat.le_of_ble_eq_true rfl⟩ ⟨(by decide), _, _, _, rfl, rfl, rfl⟩ rfl (Nat.le_of_ble_eq_true rfl) ⟨Nat.le_of_ble_eq_true rfl, Nat.le_of_ble_eq_true rfl⟩ dX6_voids_173 ?_
        rintro _ _ ⟨rfl, rfl⟩
        refine b_if_eq hB (mHalt V k) 186 dX6_voids_176 (by decide) (fun c_176 => ?_) (fun c_176 => ?_)
        · have hv : V 18 4 k = (fun m => bif mHalt V m then V 17 0 1 else V 18 4 m) k := by show _ = (bif mHalt V k then _ else _); rw [c_176]; rfl
          refine g_aload_n hB 0 dX6_voids_186 rfl rfl ?_
          refine g_get (ci := 6) (T := TX6) (N := 26) hB in_X6 rfl 17 0 9 (by decide) (by decide) rfl tw_fl_X6_29 rfl dX6_voids_187 ?_
          refine g_iload_n hB 3 dX6_voids_190 rfl rfl ?_
          refine g_iald hB 18 4 k (n := 12) (by decide) rfl (by first | assumption | omega) (Nat.le_of_ble_eq_true rfl) dX6_voids_191 ?_
          refine g_top ((V 18 4 k)) (by rw [uS_s]; exact ovl_out (by omega)) ?_
          refine s_iast hB 18 4 k (n := 12) (by decide) (fun _ => rfl) (by first | assumption | omega) (Nat.le_of_ble_eq_true rfl) dX6_voids_192 ?_
          refine g_iinc hB (nI (k + 1)) dX6_voids_193 rfl (nI_1 _) (by decide) ?_
          refine g_goto hB 158 dX6_voids_196 (by decide) ?_
          refine s_eq _ ?_ (g_sub _ rfl (ih (k + 1) (by omega) (by omega)))
          rw [uM_uS]
          refine congrArg (uS V 18 4) ?_
          rw [← ovl0_s]
          exact congrArg (upd _ k) hv
        · have hv : V 17 0 1 = (fun m => bif mHalt V m then V 17 0 1 else V 18 4 m) k := by show _ = (bif mHalt V k then _ else _); rw [c_176]; rfl
          refine g_aload_n hB 0 dX6_voids_179 rfl rfl ?_
          refine g_get (ci := 6) (T := TX6) (N := 26) hB in_X6 rfl 17 0 1 (by decide) (by decide) rfl tw_fl_X6_109 rfl dX6_voids_180 ?_
          refine g_goto hB 192 dX6_voids_183 (by decide) ?_
          refine s_iast hB 18 4 k (n := 12) (by decide) (fun _ => rfl) (by first | assumption | omega) (Nat.le_of_ble_eq_true rfl) dX6_voids_192 ?_
          refine g_iinc hB (nI (k + 1)) dX6_voids_193 rfl (nI_1 _) (by decide) ?_
          refine g_goto hB 158 dX6_voids_196 (by decide) ?_
          refine s_eq _ ?_ (g_sub _ rfl (ih (k + 1) (by omega) (by omega)))
          rw [uM_uS]
          refine congrArg (uS V 18 4) ?_
          rw [← ovl0_s]
          exact congrArg (upd _ k) hv
  have loop : ∀ (n c a : Nat), nc - c < n → c ≤ nc → a = vCnt S p c → G p9 l e9 { frames := 2, cells := 0, slots := 0, locals := 45 } s9 m9 a9 b9 me9 c9 D ad A9 6 (MQ b9 (va_Qi (PR ad ca (nI (vCnt S p nc)) (rVoidM S p nc nm)) (fun E' t => WW D ad CNT A9 E' t.heap) A9) a9 s9 0 0 A9) 0 0 CNT (SH ad ca (vMem S p c)) 4 [(0, .ref (ad 17 0)), (1, .int (nI p)), (2, .int (nI a)), (3, .int (nI c))] [] := by
    intro n
    induction n with
    | zero => intro c a h1; omega
    | succ n ih =>
      intro c a h1 h2 ha
      have hcc := hc' c
      have hih : ∀ (T : Mem) (a' : Nat), c < nc → T = vStep (vMem S p c) p c → a' = a + vCnt1 (vMem S p c) p c → G p9 l e9 { frames := 2, cells := 0, slots := 0, locals := 45 } s9 m9 a9 b9 me9 c9 D ad A9 6 (MQ b9 (va_Qi (PR ad ca (nI (vCnt S p nc)) (rVoidM S p nc nm)) (fun E' t => WW D ad CNT A9 E' t.heap) A9) a9 s9 0 0 A9) 0 0 CNT (SH ad ca (T)) 4 [(0, .ref (ad 17 0)), (1, .int (nI p)), (2, .int (nI (a'))), (3, .int (nI (c + 1)))] [] := fun T a' hlt hT2 ha2 => by
        rw [hT2]; exact ih (c + 1) a' (by omega) (by omega) (by rw [vCnt, ← ha]; exact ha2)
      generalize hM : vMem S p c = M at hcc hih ⊢
      clear ih
      obtain ⟨hd, hhd⟩ : ∃ b, b = decide (M 18 11 c = nI 1) := ⟨_, rfl⟩
      have J127 : c < nc → ∀ T, T = vStep M p c → G p9 l e9 { frames := 2, cells := 0, slots := 0, locals := 45 } s9 m9 a9 b9 me9 c9 D ad A9 6 (MQ b9 (va_Qi (PR ad ca (nI (vCnt S p nc)) (rVoidM S p nc nm)) (fun E' t => WW D ad CNT A9 E' t.heap) A9) a9 s9 0 0 A9) 0 0 CNT (SH ad ca (T)) 127 [(0, .ref (ad 17 0)), (1, .int (nI p)), (2, .int (nI a)), (3, .int (nI c)), (4, .int (bI (hd)))] [] := by
        intro hlt T hT3
        refine g_iload_n hB 2 dX6_voids_127 rfl rfl ?_
        refine g_iload hB 4 dX6_voids_128 rfl ?_
        refine b_if_eq hB (hd) 147 dX6_voids_130 (by decide) (fun c_130 => ?_) (fun c_130 => ?_)
        · refine g_iconst hB (nI 0) dX6_voids_147 rfl ?_
          refine g_iadd hB dX6_voids_148 ?_
          refine g_top (nI (a + 0)) (nI_add _ _) ?_
          refine g_istore_n hB 2 dX6_voids_149 rfl (by decide) ?_
          refine g_iinc hB (nI (c + 1)) dX6_voids_150 rfl (nI_1 _) (by decide) ?_
          refine g_goto hB 4 dX6_voids_153 (by decide) ?_
          refine g_sub _ rfl (hih T _ hlt hT3 ?_)
          unfold vCnt1
          rw [← hT3, ← hhd]
          first | (rw [c_130]; rfl) | (rw [c_130, c_140]; rfl) | (rw [c_130, decide_eq_true c_140]; rfl)
        · refine g_aload_n hB 0 dX6_voids_133 rfl rfl ?_
          refine g_get (ci := 6) (T := TX6) (N := 26) hB in_X6 rfl 17 0 18 (by decide) (by decide) rfl tw_fl_X6_50 rfl dX6_voids_134 ?_
          refine g_iload_n hB 3 dX6_voids_137 rfl rfl ?_
          refine g_iald hB 18 11 c (n := 40) (by decide) rfl (by first | assumption | omega) (Nat.le_of_ble_eq_true rfl) dX6_voids_138 ?_
          refine g_iconst hB (nI 1) dX6_voids_139 rfl ?_
          refine g_icmp_eq hB 147 dX6_voids_140 (by decide) (fun c_140 => ?_) (fun c_140 => ?_)
          · refine g_iconst hB (nI 0) dX6_voids_147 rfl ?_
            refine g_iadd hB dX6_voids_148 ?_
            refine g_top (nI (a + 0)) (nI_add _ _) ?_
            refine g_istore_n hB 2 dX6_voids_149 rfl (by decide) ?_
            refine g_iinc hB (nI (c + 1)) dX6_voids_150 rfl (nI_1 _) (by decide) ?_
            refine g_goto hB 4 dX6_voids_153 (by decide) ?_
            refine g_sub _ rfl (hih T _ hlt hT3 ?_)
            unfold vCnt1
            rw [← hT3, ← hhd]
            first | (rw [c_130]; rfl) | (rw [c_130, c_140]; rfl) | (rw [c_130, decide_eq_true c_140]; rfl)
          · refine g_iconst hB (nI 1) dX6_voids_143 rfl ?_
            refine g_goto hB 148 dX6_voids_144 (by decide) ?_
            refine g_iadd hB dX6_voids_148 ?_
            refine g_top (nI (a + 1)) (nI_add _ _) ?_
            refine g_istore_n hB 2 dX6_voids_149 rfl (by decide) ?_
            refine g_iinc hB (nI (c + 1)) dX6_voids_150 rfl (nI_1 _) (by decide) ?_
            refine g_goto hB 4 dX6_voids_153 (by decide) ?_
            refine g_sub _ rfl (hih T _ hlt hT3 ?_)
            unfold vCnt1
            rw [← hT3, ← hhd]
            first | (rw [c_130]; rfl) | (rw [c_130, c_140]; rfl) | (rw [c_130, decide_eq_true c_140]; rfl)
      have J94 : c < nc → ∀ T, T = vSt2 (vGiv M p c) c hd → G p9 l e9 { frames := 2, cells := 0, slots := 0, locals := 45 } s9 m9 a9 b9 me9 c9 D ad A9 6 (MQ b9 (va_Qi (PR ad ca (nI (vCnt S p nc)) (rVoidM S p nc nm)) (fun E' t => WW D ad CNT A9 E' t.heap) A9) a9 s9 0 0 A9) 0 0 CNT (SH ad ca (T)) 94 [(0, .ref (ad 17 0)), (1, .int (nI p)), (2, .int (nI a)), (3, .int (nI c)), (4, .int (bI (hd)))] [] := by
        intro hlt T hT3
        have hv : vStep M p c = vSt3 T p c := by unfold vStep; rw [← hhd, ← hT3]
        refine g_aload_n hB 0 dX6_voids_94 rfl rfl ?_
        refine g_get (ci := 6) (T := TX6) (N := 26) hB in_X6 rfl 17 0 13 (by decide) (by decide) rfl tw_fl_X6_35 rfl dX6_voids_95 ?_
        refine g_iload_n hB 3 dX6_voids_98 rfl rfl ?_
        refine g_iald hB 18 6 c (n := 40) (by decide) rfl (by first | assumption | omega) (Nat.le_of_ble_eq_true rfl) dX6_voids_99 ?_
        refine g_iload_n hB 1 dX6_voids_100 rfl rfl ?_
        refine g_icmp_ne hB 127 dX6_voids_101 (by decide) (fun c_101 => ?_) (fun c_101 => ?_)
        · refine g_sub _ rfl (J127 hlt _ ?_)
          rw [hv]
          unfold vSt3
          first | (rw [decide_eq_false c_101]; rfl) | (rw [decide_eq_true c_101, decide_eq_false (Int32.not_lt.mpr c_117)]; rfl) | (rw [decide_eq_true c_101, decide_eq_true (Int32.not_le.mp c_117)]; rfl)
        · refine g_aload_n hB 0 dX6_voids_104 rfl rfl ?_
          refine g_get (ci := 6) (T := TX6) (N := 26) hB in_X6 rfl 17 0 1 (by decide) (by decide) rfl tw_fl_X6_109 rfl dX6_voids_105 ?_
          refine g_aload_n hB 0 dX6_voids_108 rfl rfl ?_
          refine g_get (ci := 6) (T := TX6) (N := 26) hB in_X6 rfl 17 0 16 (by decide) (by decide) rfl tw_fl_X6_44 rfl dX6_voids_109 ?_
          refine g_iload_n hB 3 dX6_voids_112 rfl rfl ?_
          refine g_iald hB 18 9 c (n := 40) (by decide) rfl (by first | assumption | omega) (Nat.le_of_ble_eq_true rfl) dX6_voids_113 ?_
          refine g_isub hB dX6_voids_114 ?_
          refine g_bipush hB (nI 30) dX6_voids_115 rfl ?_
          refine g_icmp_ge hB 127 dX6_voids_117 (by decide) (fun c_117 => ?_) (fun c_117 => ?_)
          · refine g_sub _ rfl (J127 hlt _ ?_)
            rw [hv]
            unfold vSt3
            first | (rw [decide_eq_false c_101]; rfl) | (rw [decide_eq_true c_101, decide_eq_false (Int32.not_lt.mpr c_117)]; rfl) | (rw [decide_eq_true c_101, decide_eq_true (Int32.not_le.mp c_117)]; rfl)
          · refine g_aload_n hB 0 dX6_voids_120 rfl rfl ?_
            refine g_get (ci := 6) (T := TX6) (N := 26) hB in_X6 rfl 17 0 18 (by decide) (by decide) rfl tw_fl_X6_50 rfl dX6_voids_121 ?_
            refine g_iload_n hB 3 dX6_voids_124 rfl rfl ?_
            refine g_iconst hB (nI 3) dX6_voids_125 rfl ?_
            refine s_iast hB 18 11 c (n := 40) (by decide) (fun _ => rfl) (by first | assumption | omega) (Nat.le_of_ble_eq_true rfl) dX6_voids_126 ?_
            refine g_sub _ rfl (J127 hlt _ ?_)
            rw [hv]
            unfold vSt3
            first | (rw [decide_eq_false c_101]; rfl) | (rw [decide_eq_true c_101, decide_eq_false (Int32.not_lt.mpr c_117)]; rfl) | (rw [decide_eq_true c_101, decide_eq_true (Int32.not_le.mp c_117)]; rfl)
      have J73 : c < nc → ∀ T, T = vGiv M p c → G p9 l e9 { frames := 2, cells := 0, slots := 0, locals := 45 } s9 m9 a9 b9 me9 c9 D ad A9 6 (MQ b9 (va_Qi (PR ad ca (nI (vCnt S p nc)) (rVoidM S p nc nm)) (fun E' t => WW D ad CNT A9 E' t.heap) A9) a9 s9 0 0 A9) 0 0 CNT (SH ad ca (T)) 73 [(0, .ref (ad 17 0)), (1, .int (nI p)), (2, .int (nI a)), (3, .int (nI c)), (4, .int (bI (hd)))] [] := by
        intro hlt T hT3
        refine g_iload hB 4 dX6_voids_73 rfl ?_
        refine b_if_eq hB (hd) 94 dX6_voids_75 (by decide) (fun c_75 => ?_) (fun c_75 => ?_)
        · refine g_sub _ rfl (J94 hlt _ ?_)
          rw [← hT3]
          unfold vSt2
          first | (rw [c_75]; rfl) | (rw [c_75, decide_eq_false (show ¬ mGood T c < 2 by omega)]; rfl) | (rw [c_75, decide_eq_true c_84]; rfl)
        · refine g_aload_n hB 0 dX6_voids_78 rfl rfl ?_
          refine g_iload_n hB 3 dX6_voids_79 rfl rfl ?_
          refine g_callVI hB (c_X6_good _ c (by omega)) k_X6_115 rfl yk_X6_good ⟨Nat.le_of_ble_eq_true rfl, Nat.le_of_ble_eq_true rfl⟩ ⟨(by decide), _, _, _, rfl, rfl, rfl⟩ rfl (Nat.le_of_ble_eq_true rfl) ⟨Nat.le_of_ble_eq_true rfl, Nat.le_of_ble_eq_true rfl⟩ dX6_voids_80 ?_
          rintro _ _ ⟨rfl, rfl⟩
          have hgl : mGood T c ≤ 8 := cntB_le _ _
          refine g_iconst hB (nI 2) dX6_voids_83 rfl ?_
          refine n_icmp_ge hB (mGood T c) 2 94 dX6_voids_84 (by decide) (by omega) (by omega) (fun c_84 => ?_) (fun c_84 => ?_)
          · refine g_sub _ rfl (J94 hlt _ ?_)
            rw [← hT3]
            unfold vSt2
            first | (rw [c_75]; rfl) | (rw [c_75, decide_eq_false (show ¬ mGood T c < 2 by omega)]; rfl) | (rw [c_75, decide_eq_true c_84]; rfl)
          · refine g_aload_n hB 0 dX6_voids_87 rfl rfl ?_
            refine g_get (ci := 6) (T := TX6) (N := 26) hB in_X6 rfl 17 0 18 (by decide) (by decide) rfl tw_fl_X6_50 rfl dX6_voids_88 ?_
            refine g_iload_n hB 3 dX6_voids_91 rfl rfl ?_
            refine g_iconst hB (nI 2) dX6_voids_92 rfl ?_
            refine s_iast hB 18 11 c (n := 40) (by decide) (fun _ => rfl) (by first | assumption | omega) (Nat.le_of_ble_eq_true rfl) dX6_voids_93 ?_
            refine g_sub _ rfl (J94 hlt _ ?_)
            rw [← hT3]
            unfold vSt2
            first | (rw [c_75]; rfl) | (rw [c_75, decide_eq_false (show ¬ mGood T c < 2 by omega)]; rfl) | (rw [c_75, decide_eq_true c_84]; rfl)
      refine g_iload_n hB 3 dX6_voids_4 rfl rfl ?_
      refine g_aload_n hB 0 dX6_voids_5 rfl rfl ?_
      refine g_get (ci := 6) (T := TX6) (N := 26) hB in_X6 rfl 17 0 11 (by decide) (by decide) rfl tw_fl_X6_84 rfl dX6_voids_6 ?_
      refine g_top (nI nc) (hcc) ?_
      refine n_icmp_ge hB c nc 156 dX6_voids_9 (by decide) (by omega) (by omega) (fun c_9 => ?_) (fun c_9 => ?_)
      · have hk : c = nc := by omega
        subst hk
        subst ha
        refine g_iconst hB (nI 0) dX6_voids_156 rfl ?_
        refine g_istore_n hB 3 dX6_voids_157 rfl (by decide) ?_
        refine s_eq _ ?_ (g_sub _ rfl (last (nm + 1) 0 (by omega) (by omega)))
        rw [hM, ovl_0, uS_self]
      · refine g_aload_n hB 0 dX6_voids_12 rfl rfl ?_
        refine g_get (ci := 6) (T := TX6) (N := 26) hB in_X6 rfl 17 0 18 (by decide) (by decide) rfl tw_fl_X6_50 rfl dX6_voids_13 ?_
        refine g_iload_n hB 3 dX6_voids_16 rfl rfl ?_
        refine g_iald hB 18 11 c (n := 40) (by decide) rfl (by first | assumption | omega) (Nat.le_of_ble_eq_true rfl) dX6_voids_17 ?_
        refine g_iconst hB (nI 1) dX6_voids_18 rfl ?_
        refine g_icmp_ne hB 26 dX6_voids_19 (by decide) (fun c_19 => ?_) (fun c_19 => ?_)
        · have hq : nI 0 = bI hd := by rw [hhd, decide_eq_false c_19]; rfl
          refine g_iconst hB (nI 0) dX6_voids_26 rfl ?_
          refine g_istore hB 4 dX6_voids_27 (by decide) ?_
          refine g_bipush hB (nI 8) dX6_voids_29 rfl ?_
          refine g_iload_n hB 3 dX6_voids_31 rfl rfl ?_
          refine g_imul hB dX6_voids_32 ?_
          refine g_top (nI (8 * c)) (pk_mul _ _) ?_
          refine g_iload_n hB 1 dX6_voids_33 rfl rfl ?_
          refine g_iadd hB dX6_voids_34 ?_
          refine g_top (nI (8 * c + p)) (nI_add _ _) ?_
          refine g_istore hB 5 dX6_voids_35 (by decide) ?_
          refine g_aload_n hB 0 dX6_voids_37 rfl rfl ?_
          refine g_get (ci := 6) (T := TX6) (N := 26) hB in_X6 rfl 17 0 20 (by decide) (by decide) rfl tw_fl_X6_56 rfl dX6_voids_38 ?_
          refine g_iload hB 5 dX6_voids_41 rfl ?_
          refine g_iald hB 18 13 (8 * c + p) (n := 320) (by decide) rfl (by first | assumption | omega) (Nat.le_of_ble_eq_true rfl) dX6_voids_43 ?_
          refine g_iconst hB (nI 1) dX6_voids_44 rfl ?_
          refine g_icmp_ne hB 73 dX6_voids_45 (by decide) (fun c_45 => ?_) (fun c_45 => ?_)
          · refine g_sub [(0, .ref (ad 17 0)), (1, .int (nI p)), (2, .int (nI a)), (3, .int (nI c)), (4, .int (bI hd))] (by rw [← hq]; rfl) (J73 (by omega) _ ?_)
            unfold vGiv
            first | (rw [decide_eq_false c_45]; rfl) | (rw [decide_eq_true c_45, decide_eq_false (Int32.not_lt.mpr c_62)]; rfl) | (rw [decide_eq_true c_45, decide_eq_true (Int32.not_le.mp c_62)]; rfl)
          · refine g_aload_n hB 0 dX6_voids_48 rfl rfl ?_
            refine g_get (ci := 6) (T := TX6) (N := 26) hB in_X6 rfl 17 0 1 (by decide) (by decide) rfl tw_fl_X6_109 rfl dX6_voids_49 ?_
            refine g_aload_n hB 0 dX6_voids_52 rfl rfl ?_
            refine g_get (ci := 6) (T := TX6) (N := 26) hB in_X6 rfl 17 0 21 (by decide) (by decide) rfl tw_fl_X6_59 rfl dX6_voids_53 ?_
            refine g_iload hB 5 dX6_voids_56 rfl ?_
            refine g_iald hB 18 14 (8 * c + p) (n := 320) (by decide) rfl (by first | assumption | omega) (Nat.le_of_ble_eq_true rfl) dX6_voids_58 ?_
            refine g_isub hB dX6_voids_59 ?_
            refine g_bipush hB (nI 30) dX6_voids_60 rfl ?_
            refine g_icmp_ge hB 73 dX6_voids_62 (by decide) (fun c_62 => ?_) (fun c_62 => ?_)
            · refine g_sub [(0, .ref (ad 17 0)), (1, .int (nI p)), (2, .int (nI a)), (3, .int (nI c)), (4, .int (bI hd))] (by rw [← hq]; rfl) (J73 (by omega) _ ?_)
              unfold vGiv
              first | (rw [decide_eq_false c_45]; rfl) | (rw [decide_eq_true c_45, decide_eq_false (Int32.not_lt.mpr c_62)]; rfl) | (rw [decide_eq_true c_45, decide_eq_true (Int32.not_le.mp c_62)]; rfl)
            · refine g_aload_n hB 0 dX6_voids_65 rfl rfl ?_
              refine g_get (ci := 6) (T := TX6) (N := 26) hB in_X6 rfl 17 0 20 (by decide) (by decide) rfl tw_fl_X6_56 rfl dX6_voids_66 ?_
              refine g_iload hB 5 dX6_voids_69 rfl ?_
              refine g_iconst hB (nI 2) dX6_voids_71 rfl ?_
              refine s_iast hB 18 13 (8 * c + p) (n := 320) (by decide) (fun _ => rfl) (by first | assumption | omega) (Nat.le_of_ble_eq_true rfl) dX6_voids_72 ?_
              refine g_sub [(0, .ref (ad 17 0)), (1, .int (nI p)), (2, .int (nI a)), (3, .int (nI c)), (4, .int (bI hd))] (by rw [← hq]; rfl) (J73 (by omega) _ ?_)
              unfold vGiv
              first | (rw [decide_eq_false c_45]; rfl) | (rw [decide_eq_true c_45, decide_eq_false (Int32.not_lt.mpr c_62)]; rfl) | (rw [decide_eq_true c_45, decide_eq_true (Int32.not_le.mp c_62)]; rfl)
        · have hq : nI 1 = bI hd := by rw [hhd, decide_eq_true c_19]; rfl
          refine g_iconst hB (nI 1) dX6_voids_22 rfl ?_
          refine g_goto hB 27 dX6_voids_23 (by decide) ?_
          refine g_istore hB 4 dX6_voids_27 (by decide) ?_
          refine g_bipush hB (nI 8) dX6_voids_29 rfl ?_
          refine g_iload_n hB 3 dX6_voids_31 rfl rfl ?_
          refine g_imul hB dX6_voids_32 ?_
          refine g_top (nI (8 * c)) (pk_mul _ _) ?_
          refine g_iload_n hB 1 dX6_voids_33 rfl rfl ?_
          refine g_iadd hB dX6_voids_34 ?_
          refine g_top (nI (8 * c + p)) (nI_add _ _) ?_
          refine g_istore hB 5 dX6_voids_35 (by decide) ?_
          refine g_aload_n hB 0 dX6_voids_37 rfl rfl ?_
          refine g_get (ci := 6) (T := TX6) (N := 26) hB in_X6 rfl 17 0 20 (by decide) (by decide) rfl tw_fl_X6_56 rfl dX6_voids_38 ?_
          refine g_iload hB 5 dX6_voids_41 rfl ?_
          refine g_iald hB 18 13 (8 * c + p) (n := 320) (by decide) rfl (by first | assumption | omega) (Nat.le_of_ble_eq_true rfl) dX6_voids_43 ?_
          refine g_iconst hB (nI 1) dX6_voids_44 rfl ?_
          refine g_icmp_ne hB 73 dX6_voids_45 (by decide) (fun c_45 => ?_) (fun c_45 => ?_)
          · refine g_sub [(0, .ref (ad 17 0)), (1, .int (nI p)), (2, .int (nI a)), (3, .int (nI c)), (4, .int (bI hd))] (by rw [← hq]; rfl) (J73 (by omega) _ ?_)
            unfold vGiv
            first | (rw [decide_eq_false c_45]; rfl) | (rw [decide_eq_true c_45, decide_eq_false (Int32.not_lt.mpr c_62)]; rfl) | (rw [decide_eq_true c_45, decide_eq_true (Int32.not_le.mp c_62)]; rfl)
          · refine g_aload_n hB 0 dX6_voids_48 rfl rfl ?_
            refine g_get (ci := 6) (T := TX6) (N := 26) hB in_X6 rfl 17 0 1 (by decide) (by decide) rfl tw_fl_X6_109 rfl dX6_voids_49 ?_
            refine g_aload_n hB 0 dX6_voids_52 rfl rfl ?_
            refine g_get (ci := 6) (T := TX6) (N := 26) hB in_X6 rfl 17 0 21 (by decide) (by decide) rfl tw_fl_X6_59 rfl dX6_voids_53 ?_
            refine g_iload hB 5 dX6_voids_56 rfl ?_
            refine g_iald hB 18 14 (8 * c + p) (n := 320) (by decide) rfl (by first | assumption | omega) (Nat.le_of_ble_eq_true rfl) dX6_voids_58 ?_
            refine g_isub hB dX6_voids_59 ?_
            refine g_bipush hB (nI 30) dX6_voids_60 rfl ?_
            refine g_icmp_ge hB 73 dX6_voids_62 (by decide) (fun c_62 => ?_) (fun c_62 => ?_)
            · refine g_sub [(0, .ref (ad 17 0)), (1, .int (nI p)), (2, .int (nI a)), (3, .int (nI c)), (4, .int (bI hd))] (by rw [← hq]; rfl) (J73 (by omega) _ ?_)
              unfold vGiv
              first | (rw [decide_eq_false c_45]; rfl) | (rw [decide_eq_true c_45, decide_eq_false (Int32.not_lt.mpr c_62)]; rfl) | (rw [decide_eq_true c_45, decide_eq_true (Int32.not_le.mp c_62)]; rfl)
            · refine g_aload_n hB 0 dX6_voids_65 rfl rfl ?_
              refine g_get (ci := 6) (T := TX6) (N := 26) hB in_X6 rfl 17 0 20 (by decide) (by decide) rfl tw_fl_X6_56 rfl dX6_voids_66 ?_
              refine g_iload hB 5 dX6_voids_69 rfl ?_
              refine g_iconst hB (nI 2) dX6_voids_71 rfl ?_
              refine s_iast hB 18 13 (8 * c + p) (n := 320) (by decide) (fun _ => rfl) (by first | assumption | omega) (Nat.le_of_ble_eq_true rfl) dX6_voids_72 ?_
              refine g_sub [(0, .ref (ad 17 0)), (1, .int (nI p)), (2, .int (nI a)), (3, .int (nI c)), (4, .int (bI hd))] (by rw [← hq]; rfl) (J73 (by omega) _ ?_)
              unfold vGiv
              first | (rw [decide_eq_false c_45]; rfl) | (rw [decide_eq_true c_45, decide_eq_false (Int32.not_lt.mpr c_62)]; rfl) | (rw [decide_eq_true c_45, decide_eq_true (Int32.not_le.mp c_62)]; rfl)
  refine g_iconst hB (nI 0) dX6_voids_0 rfl ?_
  refine g_istore_n hB 2 dX6_voids_1 rfl (by decide) ?_
  refine g_iconst hB (nI 0) dX6_voids_2 rfl ?_
  refine g_istore_n hB 3 dX6_voids_3 rfl (by decide) ?_
  exact g_sub _ rfl (loop (nc + 1) 0 0 (by omega) (by omega) rfl)
theorem c_X6_leave (S : Mem) (x : Int32) (is_ : Bool) (nm nc : Nat) (hm : S 17 0 6 = nI nm) (hnm : nm ≤ 12) (hc : S 17 0 11 = nI nc) (hnc : nc ≤ 40) (hT : TK S) : CI l yX6_leave cX6_leave 3 (some .int) { frames := 3, cells := 0, slots := 0, locals := 70 } D ad CNT ca SR (SH ad ca S) [.ref (ad 17 0), .int (x), .int (bI (is_))] (PR ad ca (rLeave (uM S 17 0 0 (nI 0)) x is_ nm nc).1 (rLeave (uM S 17 0 0 (nI 0)) x is_ nm nc).2) := by
  refine CI.of _ RX6 (by decide +kernel) rfl (Nat.le_of_ble_eq_true rfl) ?_
  intro p9 e9 s9 m9 a9 b9 me9 c9 A9 hB hr hnm9
  refine g_aload_n hB 0 dX6_leave_0 rfl rfl ?_
  refine g_iconst hB (nI 0) dX6_leave_1 rfl ?_
  refine s_put (ci := 6) (T := TX6) (N := 26) hB in_X6 rfl tyX6 tyX6_ok nmX6 17 0 0 (by decide) (by decide) rfl rfl tw_fl_X6_74 rfl rfl rfl (Nat.le_of_ble_eq_true rfl) dX6_leave_2 ?_
  refine g_iload_n hB 1 dX6_leave_5 rfl rfl ?_
  refine g_callSI hB (c_X6_isPerson _ _) k_X6_121 yk_X6_isPerson ⟨Nat.le_of_ble_eq_true rfl, Nat.le_of_ble_eq_true rfl⟩ rfl (Nat.le_of_ble_eq_true rfl) ⟨Nat.le_of_ble_eq_true rfl, Nat.le_of_ble_eq_true rfl⟩ dX6_leave_6 ?_
  rintro _ _ ⟨rfl, rfl⟩
  refine b_if_ne hB (rgB x 8) 18 dX6_leave_9 (by decide) (fun c_9 => ?_) (fun c_9 => ?_)
  · obtain ⟨j, hj, rfl⟩ := rgB_t c_9
    have ij := ix_nI (show j < 2 ^ 31 by omega)
    refine g_aload_n hB 0 dX6_leave_18 rfl rfl ?_
    refine g_get (ci := 6) (T := TX6) (N := 26) hB in_X6 rfl 17 0 3 (by decide) (by decide) rfl tw_fl_X6_13 rfl dX6_leave_19 ?_
    refine g_iload_n hB 1 dX6_leave_22 rfl rfl ?_
    refine g_iald hB 18 1 j (n := 8) (by decide) rfl (by first | assumption | omega) (Nat.le_of_ble_eq_true rfl) dX6_leave_23 ?_
    refine g_if_le hB 33 dX6_leave_24 (by decide) (fun c_24 => ?_) (fun c_24 => ?_)
    · refine g_aload_n hB 0 dX6_leave_33 rfl rfl ?_
      refine g_get (ci := 6) (T := TX6) (N := 26) hB in_X6 rfl 17 0 3 (by decide) (by decide) rfl tw_fl_X6_13 rfl dX6_leave_34 ?_
      refine g_iload_n hB 1 dX6_leave_37 rfl rfl ?_
      refine g_iload_n hB 2 dX6_leave_38 rfl rfl ?_
      refine b_if_eq hB (is_) 46 dX6_leave_39 (by decide) (fun c_39 => ?_) (fun c_39 => ?_)
      · refine g_iconst hB (nI 1) dX6_leave_46 rfl ?_
        refine s_iast hB 18 1 j (n := 8) (by decide) (fun _ => rfl) (by first | assumption | omega) (Nat.le_of_ble_eq_true rfl) dX6_leave_47 ?_
        refine g_iload_n hB 2 dX6_leave_48 rfl rfl ?_
        refine b_if_eq hB (is_) 60 dX6_leave_49 (by decide) (fun c_49 => ?_) (fun c_49 => ?_)
        · 
          refine g_iconst hB (nI 0) dX6_leave_60 rfl ?_
          exact g_iret hB hr rfl (Nat.le_of_ble_eq_true rfl) (Nat.le_of_ble_eq_true rfl) (⟨by first | (simp only [rLeave, fl, ij, c_9, c_24, c_39, c_49, decide_true, decide_false, cond_true, cond_false]; done) | (simp only [rLeave, fl, c_9, c_24, c_39, c_49, cond_true, cond_false]; done), by first | (simp only [rLeave, fl, ij, c_9, c_24, c_39, c_49, decide_true, decide_false, cond_true, cond_false]; done) | (simp only [rLeave, fl, c_9, c_24, c_39, c_49, cond_true, cond_false]; done)⟩) dX6_leave_61
        · rw [c_39] at c_49; cases c_49
      · refine g_iconst hB (nI 2) dX6_leave_42 rfl ?_
        refine g_goto hB 47 dX6_leave_43 (by decide) ?_
        refine s_iast hB 18 1 j (n := 8) (by decide) (fun _ => rfl) (by first | assumption | omega) (Nat.le_of_ble_eq_true rfl) dX6_leave_47 ?_
        refine g_iload_n hB 2 dX6_leave_48 rfl rfl ?_
        refine b_if_eq hB (is_) 60 dX6_leave_49 (by decide) (fun c_49 => ?_) (fun c_49 => ?_)
        · rw [c_39] at c_49; cases c_49
        · 
          refine g_aload_n hB 0 dX6_leave_52 rfl rfl ?_
          refine g_iload_n hB 1 dX6_leave_53 rfl rfl ?_
          refine g_callVI hB (c_X6_voids _ j nc nm hc hnc hm hnm hj hT) k_X6_124 rfl yk_X6_voids ⟨Nat.le_of_ble_eq_true rfl, Nat.le_of_ble_eq_true rfl⟩ ⟨(by decide), _, _, _, rfl, rfl, rfl⟩ rfl (Nat.le_of_ble_eq_true rfl) ⟨Nat.le_of_ble_eq_true rfl, Nat.le_of_ble_eq_true rfl⟩ dX6_leave_54 ?_
          rintro _ _ ⟨rfl, rfl⟩
          refine g_goto hB 61 dX6_leave_57 (by decide) ?_
          exact g_iret hB hr rfl (Nat.le_of_ble_eq_true rfl) (Nat.le_of_ble_eq_true rfl) (⟨by first | (simp only [rLeave, fl, ij, c_9, c_24, c_39, c_49, decide_true, decide_false, cond_true, cond_false]; done) | (simp only [rLeave, fl, c_9, c_24, c_39, c_49, cond_true, cond_false]; done), by first | (simp only [rLeave, fl, ij, c_9, c_24, c_39, c_49, decide_true, decide_false, cond_true, cond_false]; done) | (simp only [rLeave, fl, c_9, c_24, c_39, c_49, cond_true, cond_false]; done)⟩) dX6_leave_61
    · refine g_aload_n hB 0 dX6_leave_27 rfl rfl ?_
      refine g_iconst hB (nI 2) dX6_leave_28 rfl ?_
      refine g_callVI hB (c_X6_fails _ _) k_X6_112 rfl yk_X6_fails ⟨Nat.le_of_ble_eq_true rfl, Nat.le_of_ble_eq_true rfl⟩ ⟨(by decide), _, _, _, rfl, rfl, rfl⟩ rfl (Nat.le_of_ble_eq_true rfl) ⟨Nat.le_of_ble_eq_true rfl, Nat.le_of_ble_eq_true rfl⟩ dX6_leave_29 ?_
      rintro _ _ ⟨rfl, rfl⟩
      exact g_iret hB hr rfl (Nat.le_of_ble_eq_true rfl) (Nat.le_of_ble_eq_true rfl) (⟨by first | (simp only [rLeave, fl, ij, c_9, c_24, decide_true, decide_false, cond_true, cond_false]; done) | (simp only [rLeave, fl, c_9, c_24, cond_true, cond_false]; done), by first | (simp only [rLeave, fl, ij, c_9, c_24, decide_true, decide_false, cond_true, cond_false]; done) | (simp only [rLeave, fl, c_9, c_24, cond_true, cond_false]; done)⟩) dX6_leave_32
  · refine g_aload_n hB 0 dX6_leave_12 rfl rfl ?_
    refine g_iconst hB (nI 1) dX6_leave_13 rfl ?_
    refine g_callVI hB (c_X6_fails _ _) k_X6_112 rfl yk_X6_fails ⟨Nat.le_of_ble_eq_true rfl, Nat.le_of_ble_eq_true rfl⟩ ⟨(by decide), _, _, _, rfl, rfl, rfl⟩ rfl (Nat.le_of_ble_eq_true rfl) ⟨Nat.le_of_ble_eq_true rfl, Nat.le_of_ble_eq_true rfl⟩ dX6_leave_14 ?_
    rintro _ _ ⟨rfl, rfl⟩
    exact g_iret hB hr rfl (Nat.le_of_ble_eq_true rfl) (Nat.le_of_ble_eq_true rfl) (⟨by first | (simp only [rLeave, fl, ij, c_9, decide_true, decide_false, cond_true, cond_false]; done) | (simp only [rLeave, fl, c_9, cond_true, cond_false]; done), by first | (simp only [rLeave, fl, ij, c_9, decide_true, decide_false, cond_true, cond_false]; done) | (simp only [rLeave, fl, c_9, cond_true, cond_false]; done)⟩) dX6_leave_17
theorem c_X6_passes (S : Mem) (ng nm nc t pa : Nat) (h : RI S ng nm nc t pa) (ht : t + 1 < 2 ^ 20) : CI l yX6_passes cX6_passes 4 (some .int) { frames := 4, cells := 0, slots := 0, locals := 97 } D ad CNT ca SR (SH ad ca S) [.ref (ad 17 0)] (PR ad ca (nI (rDay S nc nm pa).2) (rDay S nc nm pa).1) := by
  have h1 := RI_now h ht
  refine CI.of _ RX6 (by decide +kernel) rfl (Nat.le_of_ble_eq_true rfl) ?_
  intro p9 e9 s9 m9 a9 b9 me9 c9 A9 hB hr hnm9
  obtain ⟨q0, hq0⟩ : ∃ q, q = (uM S 17 0 1 (S 17 0 1 + nI 1), pa, 0) := ⟨_, rfl⟩
  have hR : ∀ n, n ≤ nm → RI (pSts nc q0 n).1 ng nm nc (t + 1) pa := fun n hn => RI_pSts (by rw [hq0]; exact h1) n hn
  have hfin : rDay S nc nm pa = ((pSts nc q0 nm).1, (pSts nc q0 nm).2.2) := by rw [hq0]; rfl
  have hnm := h.2.1.2
  have hnc := h.2.2.1.2
  have hng := h.1.2.2
  have loop : ∀ (n m : Nat) (q : Mem × Nat × Nat), nm - m < n → m ≤ nm → q = pSts nc q0 m → q.2.1 ≤ pa → G p9 l e9 { frames := 4, cells := 0, slots := 0, locals := 97 } s9 m9 a9 b9 me9 c9 D ad A9 4 (MQ b9 (va_Qi (PR ad ca (nI (rDay S nc nm pa).2) (rDay S nc nm pa).1) (fun E' t => WW D ad CNT A9 E' t.heap) A9) a9 s9 0 0 A9) 0 0 CNT (SH ad ca (q.1)) 19 [(0, .ref (ad 17 0)), (1, .int (nI (q.2.1))), (2, .int (nI (q.2.2))), (3, .int (nI m))] [] := by
    intro n
    induction n with
    | zero => intro m q h1; omega
    | succ n ih =>
      intro m q h3 h2 hq hle
      have hRI := hR m h2
      rw [← hq] at hRI
      have hpa := h.2.2.2.2.1.2
      have hih : m < nm → ∀ q', q' = pSt nc q m → q'.2.1 ≤ pa → G p9 l e9 { frames := 4, cells := 0, slots := 0, locals := 97 } s9 m9 a9 b9 me9 c9 D ad A9 4 (MQ b9 (va_Qi (PR ad ca (nI (rDay S nc nm pa).2) (rDay S nc nm pa).1) (fun E' t => WW D ad CNT A9 E' t.heap) A9) a9 s9 0 0 A9) 0 0 CNT (SH ad ca (q'.1)) 19 [(0, .ref (ad 17 0)), (1, .int (nI (q'.2.1))), (2, .int (nI (q'.2.2))), (3, .int (nI (m + 1)))] [] := fun hlt q' hq' hl' => ih (m + 1) q' (by omega) (by omega) (by rw [hq', hq]; rfl) hl'
      refine g_iload_n hB 3 dX6_passes_19 rfl rfl ?_
      refine g_aload_n hB 0 dX6_passes_20 rfl rfl ?_
      refine g_get (ci := 6) (T := TX6) (N := 26) hB in_X6 rfl 17 0 6 (by decide) (by decide) rfl tw_fl_X6_81 rfl dX6_passes_21 ?_
      refine g_top (nI nm) (hRI.2.1.1) ?_
      refine n_icmp_ge hB m nm 78 dX6_passes_24 (by decide) (by omega) (by omega) (fun c_24 => ?_) (fun c_24 => ?_)
      · have hk : m = nm := by omega
        subst hk
        refine g_iload_n hB 2 dX6_passes_78 rfl rfl ?_
        exact g_iret hB hr rfl (Nat.le_of_ble_eq_true rfl) (Nat.le_of_ble_eq_true rfl) (⟨by rw [hfin, hq], by rw [hfin, hq]⟩) dX6_passes_79
      · have hgr := RI_grp hRI c_24
        refine g_aload_n hB 0 dX6_passes_27 rfl rfl ?_
        refine g_iload_n hB 3 dX6_passes_28 rfl rfl ?_
        refine g_callVI hB (c_X6_isHalted _ m (by omega) hRI.2.2.2.2.2.2.2.1) k_X6_118 rfl yk_X6_isHalted ⟨Nat.le_of_ble_eq_true rfl, Nat.le_of_ble_eq_true rfl⟩ ⟨(by decide), _, _, _, rfl, rfl, rfl⟩ rfl (Nat.le_of_ble_eq_true rfl) ⟨Nat.le_of_ble_eq_true rfl, Nat.le_of_ble_eq_true rfl⟩ dX6_passes_29 ?_
        rintro _ _ ⟨rfl, rfl⟩
        refine b_if_eq hB (mHalt q.1 m) 46 dX6_passes_32 (by decide) (fun c_32 => ?_) (fun c_32 => ?_)
        · refine g_aload_n hB 0 dX6_passes_46 rfl rfl ?_
          refine g_iload_n hB 3 dX6_passes_47 rfl rfl ?_
          refine g_callVI hB (c_X6_works _ m (by omega)) k_X6_135 rfl yk_X6_works ⟨Nat.le_of_ble_eq_true rfl, Nat.le_of_ble_eq_true rfl⟩ ⟨(by decide), _, _, _, rfl, rfl, rfl⟩ rfl (Nat.le_of_ble_eq_true rfl) ⟨Nat.le_of_ble_eq_true rfl, Nat.le_of_ble_eq_true rfl⟩ dX6_passes_48 ?_
          rintro _ _ ⟨rfl, rfl⟩
          refine b_if_ne hB (decide (q.1 17 0 1 < q.1 18 4 m)) 72 dX6_passes_51 (by decide) (fun c_51 => ?_) (fun c_51 => ?_)
          · refine g_iinc hB (nI (m + 1)) dX6_passes_72 rfl (nI_1 _) (by decide) ?_
            refine g_goto hB 19 dX6_passes_75 (by decide) ?_
            have e : pSt nc q m = q := by unfold pSt; rw [c_32, c_51]; rfl
            exact g_sub _ rfl (hih c_24 q e.symm hle)
          · refine g_iload_n hB 1 dX6_passes_54 rfl rfl ?_
            refine g_if_le hB 72 dX6_passes_55 (by decide) (fun c_55 => ?_) (fun c_55 => ?_)
            · have e55 : q.2.1 = 0 := by
                rcases Nat.eq_zero_or_pos q.2.1 with z | z
                · exact z
                · exact absurd c_55 (nI_nle z (by omega))
              refine g_iinc hB (nI (m + 1)) dX6_passes_72 rfl (nI_1 _) (by decide) ?_
              refine g_goto hB 19 dX6_passes_75 (by decide) ?_
              have e : pSt nc q m = q := by unfold pSt; rw [c_32, c_51, decide_eq_true e55]; rfl
              exact g_sub _ rfl (hih c_24 q e.symm hle)
            · have e55 : q.2.1 ≠ 0 := fun z => c_55 (by rw [z]; decide)
              refine g_aload_n hB 0 dX6_passes_58 rfl rfl ?_
              refine g_iload_n hB 3 dX6_passes_59 rfl rfl ?_
              refine g_callVI hB (c_X6_takes _ m (grp q.1 m) ng nc hRI.2.2.2.2.2.1 hng hgr.1 (by omega) hgr.2 hRI.2.2.1.1 hnc) k_X6_138 rfl yk_X6_takes ⟨Nat.le_of_ble_eq_true rfl, Nat.le_of_ble_eq_true rfl⟩ ⟨(by decide), _, _, _, rfl, rfl, rfl⟩ rfl (Nat.le_of_ble_eq_true rfl) ⟨Nat.le_of_ble_eq_true rfl, Nat.le_of_ble_eq_true rfl⟩ dX6_passes_60 ?_
              rintro _ _ ⟨rfl, rfl⟩
              refine b_if_eq hB (decide (mFar q.1 nc m (grp q.1 m) ≠ 0)) 72 dX6_passes_63 (by decide) (fun c_63 => ?_) (fun c_63 => ?_)
              · refine g_iinc hB (nI (m + 1)) dX6_passes_72 rfl (nI_1 _) (by decide) ?_
                refine g_goto hB 19 dX6_passes_75 (by decide) ?_
                have e : pSt nc q m = q := by unfold pSt; rw [c_32, c_51, decide_eq_false e55, c_63]; rfl
                have e2 : mTake q.1 nc m (grp q.1 m) = q.1 := by
                  have := of_decide_eq_false c_63
                  unfold mTake
                  rw [Decidable.not_not.mp this]
                exact s_eq _ e2 (g_sub _ rfl (hih c_24 q e.symm hle))
              · refine g_iinc hB (nI (q.2.1 - 1)) dX6_passes_66 rfl (by rw [show q.2.1 = (q.2.1 - 1) + 1 by omega]; exact lI_pred' _) (by decide) ?_
                refine g_iinc hB (nI (q.2.2 + 1)) dX6_passes_69 rfl (nI_1 _) (by decide) ?_
                refine g_iinc hB (nI (m + 1)) dX6_passes_72 rfl (nI_1 _) (by decide) ?_
                refine g_goto hB 19 dX6_passes_75 (by decide) ?_
                have e : pSt nc q m = (mTake q.1 nc m (grp q.1 m), q.2.1 - 1, q.2.2 + 1) := by unfold pSt; rw [c_32, c_51, decide_eq_false e55, c_63]; rfl
                exact g_sub _ rfl (hih c_24 (_, _, _) e.symm (by show q.2.1 - 1 ≤ pa; omega))
        · refine g_aload_n hB 0 dX6_passes_35 rfl rfl ?_
          refine g_iload_n hB 3 dX6_passes_36 rfl rfl ?_
          refine g_callVV hB (c_X6_goesBack _ m (grp q.1 m) ng nc (bkF q.1 m) hRI.2.2.2.2.2.1 hng hgr.1 (by omega) hgr.2 hRI.2.2.1.1 hnc hRI.2.2.2.2.2.2.2.1 (RI_halt hRI c_24 c_32).1) k_X6_131 rfl yk_X6_goesBack ⟨Nat.le_of_ble_eq_true rfl, Nat.le_of_ble_eq_true rfl⟩ ⟨(by decide), _, _, _, rfl, rfl, rfl⟩ rfl (Nat.le_of_ble_eq_true rfl) ⟨Nat.le_of_ble_eq_true rfl, Nat.le_of_ble_eq_true rfl⟩ dX6_passes_37 ?_
          rintro _ rfl
          refine g_iinc hB (nI (q.2.2 + 1)) dX6_passes_40 rfl (nI_1 _) (by decide) ?_
          refine g_goto hB 72 dX6_passes_43 (by decide) ?_
          refine g_iinc hB (nI (m + 1)) dX6_passes_72 rfl (nI_1 _) (by decide) ?_
          refine g_goto hB 19 dX6_passes_75 (by decide) ?_
          have e : pSt nc q m = (mBackAt q.1 nc m ((lay (q.1 18 2) (grp q.1 m)).getD (bkF q.1 m) 0), q.2.1, q.2.2 + 1) := by unfold pSt; rw [c_32]; rfl
          exact g_sub _ rfl (hih c_24 (_, _, _) e.symm hle)
  refine g_aload_n hB 0 dX6_passes_0 rfl rfl ?_
  refine g_dup hB rfl dX6_passes_1 ?_
  refine g_get (ci := 6) (T := TX6) (N := 26) hB in_X6 rfl 17 0 1 (by decide) (by decide) rfl tw_fl_X6_109 rfl dX6_passes_2 ?_
  refine g_iconst hB (nI 1) dX6_passes_5 rfl ?_
  refine g_iadd hB dX6_passes_6 ?_
  refine s_put (ci := 6) (T := TX6) (N := 26) hB in_X6 rfl tyX6 tyX6_ok nmX6 17 0 1 (by decide) (by decide) rfl rfl tw_fl_X6_109 rfl rfl rfl (Nat.le_of_ble_eq_true rfl) dX6_passes_7 ?_
  refine g_aload_n hB 0 dX6_passes_10 rfl rfl ?_
  refine g_get (ci := 6) (T := TX6) (N := 26) hB in_X6 rfl 17 0 7 (by decide) (by decide) rfl tw_fl_X6_23 rfl dX6_passes_11 ?_
  refine g_top (nI pa) (h.2.2.2.2.1.1) ?_
  refine g_istore_n hB 1 dX6_passes_14 rfl (by decide) ?_
  refine g_iconst hB (nI 0) dX6_passes_15 rfl ?_
  refine g_istore_n hB 2 dX6_passes_16 rfl (by decide) ?_
  refine g_iconst hB (nI 0) dX6_passes_17 rfl ?_
  refine g_istore_n hB 3 dX6_passes_18 rfl (by decide) ?_
  have hl := loop (nm + 1) 0 q0 (by omega) (by omega) rfl (by rw [hq0]; exact Nat.le_refl _)
  rw [hq0] at hl
  exact g_sub _ rfl hl
theorem c_X6_pass (S : Mem) (x : Int32) (ng nm nc t pa : Nat) (h : RI S ng nm nc t pa) (ht : t + 60 < 2 ^ 20) : CI l yX6_pass cX6_pass 4 (some .int) { frames := 5, cells := 0, slots := 0, locals := 120 } D ad CNT ca SR (SH ad ca S) [.ref (ad 17 0), .int (x)] (PR ad ca (rPass (uM S 17 0 0 (nI 0)) x nc nm pa).1 (rPass (uM S 17 0 0 (nI 0)) x nc nm pa).2) := by
  have h0 : RI (uM S 17 0 0 (nI 0)) ng nm nc t pa := h
  refine CI.of _ RX6 (by decide +kernel) rfl (Nat.le_of_ble_eq_true rfl) ?_
  intro p9 e9 s9 m9 a9 b9 me9 c9 A9 hB hr hnm9
  have loop : ∀ (d : Nat), d ≤ 60 → rPass (uM S 17 0 0 (nI 0)) (nI d) nc nm pa = (nI (rDays (uM S 17 0 0 (nI 0)) nc nm pa d).2, (rDays (uM S 17 0 0 (nI 0)) nc nm pa d).1) → ∀ (n k : Nat), d - k < n → k ≤ d → G p9 l e9 { frames := 5, cells := 0, slots := 0, locals := 120 } s9 m9 a9 b9 me9 c9 D ad A9 4 (MQ b9 (va_Qi (PR ad ca (rPass (uM S 17 0 0 (nI 0)) (nI d) nc nm pa).1 (rPass (uM S 17 0 0 (nI 0)) (nI d) nc nm pa).2) (fun E' t => WW D ad CNT A9 E' t.heap) A9) a9 s9 0 0 A9) 0 0 CNT (SH ad ca ((rDays (uM S 17 0 0 (nI 0)) nc nm pa k).1)) 25 [(0, .ref (ad 17 0)), (1, .int (nI d)), (2, .int (nI ((rDays (uM S 17 0 0 (nI 0)) nc nm pa k).2))), (3, .int (nI k))] [] := by
    intro d hd hsp n
    induction n with
    | zero => intro k h1; omega
    | succ n ih =>
      intro k h1 h2
      refine g_iload_n hB 3 dX6_pass_25 rfl rfl ?_
      refine g_iload_n hB 1 dX6_pass_26 rfl rfl ?_
      refine n_icmp_ge hB k d 43 dX6_pass_27 (by decide) (by omega) (by omega) (fun c_27 => ?_) (fun c_27 => ?_)
      · have hk : k = d := by omega
        subst hk
        refine g_iload_n hB 2 dX6_pass_43 rfl rfl ?_
        exact g_iret hB hr rfl (Nat.le_of_ble_eq_true rfl) (Nat.le_of_ble_eq_true rfl) (⟨by rw [hsp], by rw [hsp]⟩) dX6_pass_44
      · refine g_iload_n hB 2 dX6_pass_30 rfl rfl ?_
        refine g_aload_n hB 0 dX6_pass_31 rfl rfl ?_
        refine g_callVI hB (c_X6_passes _ ng nm nc (t + k) pa (RI_days h0 k (by omega)) (by omega)) k_X6_141 rfl yk_X6_passes ⟨Nat.le_of_ble_eq_true rfl, Nat.le_of_ble_eq_true rfl⟩ ⟨(by decide), _, _, _, rfl, rfl, rfl⟩ rfl (Nat.le_of_ble_eq_true rfl) ⟨Nat.le_of_ble_eq_true rfl, Nat.le_of_ble_eq_true rfl⟩ dX6_pass_32 ?_
        rintro _ _ ⟨rfl, rfl⟩
        refine g_iadd hB dX6_pass_35 ?_
        refine g_top (nI ((rDays (uM S 17 0 0 (nI 0)) nc nm pa k).2 + (rDay (rDays (uM S 17 0 0 (nI 0)) nc nm pa k).1 nc nm pa).2)) (nI_add _ _) ?_
        refine g_istore_n hB 2 dX6_pass_36 rfl (by decide) ?_
        refine g_iinc hB (nI (k + 1)) dX6_pass_37 rfl (nI_1 _) (by decide) ?_
        refine g_goto hB 25 dX6_pass_40 (by decide) ?_
        exact g_sub _ rfl (ih (k + 1) (by omega) (by omega))
  refine g_aload_n hB 0 dX6_pass_0 rfl rfl ?_
  refine g_iconst hB (nI 0) dX6_pass_1 rfl ?_
  refine s_put (ci := 6) (T := TX6) (N := 26) hB in_X6 rfl tyX6 tyX6_ok nmX6 17 0 0 (by decide) (by decide) rfl rfl tw_fl_X6_74 rfl rfl rfl (Nat.le_of_ble_eq_true rfl) dX6_pass_2 ?_
  refine g_iload_n hB 1 dX6_pass_5 rfl rfl ?_
  refine g_iconst hB (nI 1) dX6_pass_6 rfl ?_
  refine g_bipush hB (nI 60) dX6_pass_7 rfl ?_
  refine g_callSI hB (c_X6_in _ _ _ _) k_X6_77 yk_X6_in ⟨Nat.le_of_ble_eq_true rfl, Nat.le_of_ble_eq_true rfl⟩ rfl (Nat.le_of_ble_eq_true rfl) ⟨Nat.le_of_ble_eq_true rfl, Nat.le_of_ble_eq_true rfl⟩ dX6_pass_9 ?_
  rintro _ _ ⟨rfl, rfl⟩
  refine b_if_ne hB (inR x (nI 1) (nI 60)) 21 dX6_pass_12 (by decide) (fun c_12 => ?_) (fun c_12 => ?_)
  · have e12 := of_decide_eq_true ((inR_n 1 60 (by omega) (by omega)).symm.trans c_12)
    obtain ⟨d, hd, rfl⟩ : ∃ d, d ≤ 60 ∧ x = nI d := ⟨x.toInt.toNat, by omega, by rw [i32_eq, toInt_nI (by omega)]; omega⟩
    have id := ix_nI (show d < 2 ^ 31 by omega)
    refine g_iconst hB (nI 0) dX6_pass_21 rfl ?_
    refine g_istore_n hB 2 dX6_pass_22 rfl (by decide) ?_
    refine g_iconst hB (nI 0) dX6_pass_23 rfl ?_
    refine g_istore_n hB 3 dX6_pass_24 rfl (by decide) ?_
    exact g_sub _ rfl (loop d hd (by simp only [rPass, c_12, id, cond_true]) (d + 1) 0 (by omega) (by omega))
  · refine g_aload_n hB 0 dX6_pass_15 rfl rfl ?_
    refine g_iconst hB (nI 1) dX6_pass_16 rfl ?_
    refine g_callVI hB (c_X6_fails _ _) k_X6_112 rfl yk_X6_fails ⟨Nat.le_of_ble_eq_true rfl, Nat.le_of_ble_eq_true rfl⟩ ⟨(by decide), _, _, _, rfl, rfl, rfl⟩ rfl (Nat.le_of_ble_eq_true rfl) ⟨Nat.le_of_ble_eq_true rfl, Nat.le_of_ble_eq_true rfl⟩ dX6_pass_17 ?_
    rintro _ _ ⟨rfl, rfl⟩
    exact g_iret hB hr rfl (Nat.le_of_ble_eq_true rfl) (Nat.le_of_ble_eq_true rfl) (⟨by simp only [rPass, fl, c_12, decide_true, decide_false, not_true_eq_false, not_false_eq_true, Bool.or_true, Bool.true_or, Bool.or_false, Bool.false_or, cond_true, cond_false], by simp only [rPass, fl, c_12, decide_true, decide_false, not_true_eq_false, not_false_eq_true, Bool.or_true, Bool.true_or, Bool.or_false, Bool.false_or, cond_true, cond_false]⟩) dX6_pass_20
end M7
