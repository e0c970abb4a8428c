/-! the law: proposes -/
section L10
variable {l : Launch} {D : va_G} {ad : Nat → Nat → Nat} {ca : Nat → ClassId}
def TPP (ad : Nat → Nat → Nat) (ca : Nat → ClassId) (kk : Nat) : Int32 → Rl → Prop := fun r E' => ∃ T, r = bI true ∧ E' = SH ad ca T ∧ TI T (kk + 1)
theorem prA_gh {S : Mem} {nc a p k w t : Nat} : ∀ b, b ≠ 17 → b ≠ 18 → b ≠ 19 → prA S nc a p k w t b = prU S nc a p k w t b := fun b h17 h18 _ => by
  funext i j
  simp [prA, uM_ap, h17, h18]
theorem prC_3 {S : Mem} {ng nm nc t pa rk mo a p k w : Nat} (h : INV S ng nm nc t pa rk mo) (hng : ng ≤ 4) (hnm : nm ≤ 3) (hn : nc < 12) (ha : a < 5) (hp : p < 7) (hp1 : p < 4 → p < ng) (hp2 : 4 ≤ p → p < 4 + nm) (hk : k < 4) (hw : w < 102) (hs : S 18 1 a ≠ 0) : prC S (nI a) (nI (pl7 p)) (nI k) (nI w) ng nm nc = 3 := by
  rw [prC_is hng hnm hn ha hp hp1 hp2 hk hw]
  rcases h.2.2.2.2.2.1 a (by omega) with ⟨-, -, z1⟩ | ⟨z1, -, -⟩ | ⟨z1, -, -⟩
  · exact absurd z1 hs
  · rw [z1]; rfl
  · rw [z1]; rfl

theorem c_L_proposes (hl : l.stackTraces = false) (S : Mem) (ng nm nc t pa rk mo kk : Nat) (h : INV S ng nm nc t pa rk mo) (hL : LR S ng nm nc t pa rk) (hH : LH S nm t) (ht : t ≤ 60 * kk) (hmo : mo ≤ kk) (hn : nc < 12) (v : Int32) : CI l yL_proposes cL_proposes 12 (some .boolean) { frames := 9, cells := 14, slots := 84, locals := 160 } D ad CNT ca SR (SH ad ca S) [.ref (ad 0 0), .int (v), .ref (ad 22 0), .ref (ad 22 3), .ref (ad 22 5)] (TPP ad ca kk) := by
  have hL0 := hL
  obtain ⟨⟨⟨q0, q1, q2, q3, q4, q5⟩, hng1, hng4, hnm3, hnc12, ht20, hrk20, hpa12⟩, hD, hG, hN, hT, hZ, hC, hCz, hA, hGa, hE⟩ := hL
  have hTI : TI S kk := ⟨ng, nm, nc, t, pa, rk, mo, h, hL0, hH, ht, hmo⟩
  refine CI.of _ RL (by decide +kernel) rfl (Nat.le_of_ble_eq_true rfl) ?_
  intro p9 e9 s9 m9 a9 b9 me9 c9 A9 hB hr hnm9
  have mid : ∀ (a j k w p : Nat), a < 5 → j < ng + nm → k < 4 → w < 102 → (j < ng → p = j) → (ng ≤ j → p = 4 + j - ng) → G p9 l e9 { frames := 9, cells := 14, slots := 84, locals := 160 } s9 m9 a9 b9 me9 c9 D ad A9 12 (MQ b9 (va_Qi (TPP ad ca kk) (fun E' t => WW D ad CNT A9 E' t.heap) A9) a9 s9 14 84 A9) 0 0 CNT (SH ad ca (S)) 83 [(0, .ref (ad 0 0)), (1, .int (v)), (2, .ref (ad 22 0)), (3, .ref (ad 22 3)), (4, .ref (ad 22 5)), (5, .int (nI a)), (6, .int (nI j)), (7, .int (nI k)), (8, .int (nI w))] [] := by
    intro a j k w p ha hj hk hw h1 h2
    have hp : p < 7 := by omega
    have hp1 : p < 4 → p < ng := by omega
    have hp2 : 4 ≤ p → p < 4 + nm := by omega
    have e1 : j < ng → pl7 p = j := fun z => by unfold pl7; rw [if_pos (by omega)]; exact h1 z
    have e2 : ng ≤ j → pl7 p = 100 + j - ng := fun z => by unfold pl7; rw [if_neg (by omega)]; omega
    by_cases hs : S 18 1 a = 0
    · obtain ⟨hc, hT⟩ := TI_pr h hL0 hH ht hmo hn ha hp hp1 hp2 hk hw hs
      have hc0 : prC (prA S nc a p k w t) (nI a) (nI (pl7 p)) (nI k) (nI w) ng nm nc = 0 := hc
      have hKI : KI (prA S nc a p k w t) ng nm nc t pa := h.1
      have hg : cntI (S 22 0 10) (nI a) = false := by rw [(hG a ha).2.1, hs]; rfl
      have a2 : prA S nc a p k w t 22 0 2 = nI ng := q2
      refine g_aload_n hB 2 dL_proposes_83 rfl rfl ?_
      refine g_bipush hB (nI 10) dL_proposes_84 rfl ?_
      refine g_iald hB 22 0 10 (n := 12) (by decide) rfl (by first | assumption | omega) (Nat.le_of_ble_eq_true rfl) dL_proposes_86 ?_
      refine g_iload hB 5 dL_proposes_87 rfl ?_
      refine g_ishr hB dL_proposes_89 ?_
      refine g_iconst hB (nI 1) dL_proposes_90 rfl ?_
      refine g_iand hB dL_proposes_91 ?_
      refine g_if_ne hB 99 dL_proposes_92 (by decide) (fun c_92 => ?_) (fun c_92 => ?_)
      · exact absurd (hg.symm.trans (decide_eq_true c_92)) (by decide)
      · refine g_iconst hB (nI 1) dL_proposes_95 rfl ?_
        refine g_goto hB 100 dL_proposes_96 (by decide) ?_
        refine g_istore hB 9 dL_proposes_100 (by decide) ?_
        refine g_iload hB 9 dL_proposes_102 rfl ?_
        refine g_if_eq hB 113 dL_proposes_104 (by decide) (fun z => absurd z (by decide)) (fun _ => ?_)
        refine g_aload_n hB 2 dL_proposes_107 rfl rfl ?_
        refine g_iconst hB (nI 4) dL_proposes_108 rfl ?_
        refine g_iald hB 22 0 4 (n := 12) (by decide) rfl (by first | assumption | omega) (Nat.le_of_ble_eq_true rfl) dL_proposes_109 ?_
        refine g_top (nI (nc)) (q4) ?_
        refine g_goto hB 115 dL_proposes_110 (by decide) ?_
        refine g_istore hB 10 dL_proposes_115 (by decide) ?_
        refine g_iload hB 9 dL_proposes_117 rfl ?_
        refine g_if_eq hB 200 dL_proposes_119 (by decide) (fun z => absurd z (by decide)) (fun _ => ?_)
        refine g_iconst hB (nI 5) dL_proposes_122 rfl ?_
        refine g_aload_n hB 2 dL_proposes_123 rfl rfl ?_
        refine g_iconst hB (nI 4) dL_proposes_124 rfl ?_
        refine g_iald hB 22 0 4 (n := 12) (by decide) rfl (by first | assumption | omega) (Nat.le_of_ble_eq_true rfl) dL_proposes_125 ?_
        refine g_top (nI (nc)) (q4) ?_
        refine g_imul hB dL_proposes_126 ?_
        refine g_top (nI (5 * nc)) (pk_mul _ _) ?_
        refine g_istore hB 11 dL_proposes_127 (by decide) ?_
        refine g_aload_n hB 3 dL_proposes_129 rfl rfl ?_
        refine g_iload hB 11 dL_proposes_130 rfl ?_
        refine g_iload hB 6 dL_proposes_132 rfl ?_
        refine g_aload_n hB 2 dL_proposes_134 rfl rfl ?_
        refine g_iconst hB (nI 2) dL_proposes_135 rfl ?_
        refine g_iald hB 22 0 2 (n := 12) (by decide) rfl (by first | assumption | omega) (Nat.le_of_ble_eq_true rfl) dL_proposes_136 ?_
        refine g_top (nI (ng)) (q2) ?_
        refine n_icmp_ge hB j ng 145 dL_proposes_137 (by decide) (by omega) (by omega) (fun c_137 => ?_) (fun c_137 => ?_)
        · refine g_iconst hB (nI 4) dL_proposes_145 rfl ?_
          refine g_iload hB 6 dL_proposes_146 rfl ?_
          refine g_iadd hB dL_proposes_148 ?_
          refine g_top (nI (4 + j)) (nI_add _ _) ?_
          refine g_aload_n hB 2 dL_proposes_149 rfl rfl ?_
          refine g_iconst hB (nI 2) dL_proposes_150 rfl ?_
          refine g_iald hB 22 0 2 (n := 12) (by decide) rfl (by first | assumption | omega) (Nat.le_of_ble_eq_true rfl) dL_proposes_151 ?_
          refine g_top (nI (ng)) (q2) ?_
          refine g_isub hB dL_proposes_152 ?_
          refine g_top (nI (p)) (by rw [h2 (by omega)]; exact pk_sub (by omega)) ?_
          refine s_iast hB 22 3 (5 * nc) (n := 60) (by decide) (fun _ => rfl) (by first | assumption | omega) (Nat.le_of_ble_eq_true rfl) dL_proposes_153 ?_
          refine g_aload_n hB 3 dL_proposes_154 rfl rfl ?_
          refine g_iload hB 11 dL_proposes_155 rfl ?_
          refine g_iconst hB (nI 1) dL_proposes_157 rfl ?_
          refine g_iadd hB dL_proposes_158 ?_
          refine g_top (nI (5 * nc + 1)) (nI_add _ _) ?_
          refine g_iload hB 7 dL_proposes_159 rfl ?_
          refine s_iast hB 22 3 (5 * nc + 1) (n := 60) (by decide) (fun _ => rfl) (by first | assumption | omega) (Nat.le_of_ble_eq_true rfl) dL_proposes_161 ?_
          refine g_aload_n hB 3 dL_proposes_162 rfl rfl ?_
          refine g_iload hB 11 dL_proposes_163 rfl ?_
          refine g_iconst hB (nI 2) dL_proposes_165 rfl ?_
          refine g_iadd hB dL_proposes_166 ?_
          refine g_top (nI (5 * nc + 2)) (nI_add _ _) ?_
          refine g_iload hB 8 dL_proposes_167 rfl ?_
          refine s_iast hB 22 3 (5 * nc + 2) (n := 60) (by decide) (fun _ => rfl) (by first | assumption | omega) (Nat.le_of_ble_eq_true rfl) dL_proposes_169 ?_
          refine g_aload hB 4 dL_proposes_170 rfl ?_
          refine g_iconst hB (nI 2) dL_proposes_172 rfl ?_
          refine g_aload_n hB 2 dL_proposes_173 rfl rfl ?_
          refine g_iconst hB (nI 4) dL_proposes_174 rfl ?_
          refine g_iald hB 22 0 4 (n := 12) (by decide) rfl (by first | assumption | omega) (Nat.le_of_ble_eq_true rfl) dL_proposes_175 ?_
          refine g_top (nI (nc)) (by simp [uM_ap, q4]) ?_
          refine g_imul hB dL_proposes_176 ?_
          refine g_top (nI (2 * nc)) (pk_mul _ _) ?_
          refine g_iload hB 5 dL_proposes_177 rfl ?_
          refine s_iast hB 22 5 (2 * nc) (n := 24) (by decide) (fun _ => rfl) (by first | assumption | omega) (Nat.le_of_ble_eq_true rfl) dL_proposes_179 ?_
          refine g_aload hB 4 dL_proposes_180 rfl ?_
          refine g_iconst hB (nI 2) dL_proposes_182 rfl ?_
          refine g_aload_n hB 2 dL_proposes_183 rfl rfl ?_
          refine g_iconst hB (nI 4) dL_proposes_184 rfl ?_
          refine g_iald hB 22 0 4 (n := 12) (by decide) rfl (by first | assumption | omega) (Nat.le_of_ble_eq_true rfl) dL_proposes_185 ?_
          refine g_top (nI (nc)) (by simp [uM_ap, q4]) ?_
          refine g_imul hB dL_proposes_186 ?_
          refine g_top (nI (2 * nc)) (pk_mul _ _) ?_
          refine g_iconst hB (nI 1) dL_proposes_187 rfl ?_
          refine g_iadd hB dL_proposes_188 ?_
          refine g_top (nI (2 * nc + 1)) (nI_add _ _) ?_
          refine g_aload_n hB 2 dL_proposes_189 rfl rfl ?_
          refine g_iconst hB (nI 0) dL_proposes_190 rfl ?_
          refine g_iald hB 22 0 0 (n := 12) (by decide) rfl (by first | assumption | omega) (Nat.le_of_ble_eq_true rfl) dL_proposes_191 ?_
          refine g_top (nI (t)) (by simp [uM_ap, q0]) ?_
          refine s_iast hB 22 5 (2 * nc + 1) (n := 24) (by decide) (fun _ => rfl) (by first | assumption | omega) (Nat.le_of_ble_eq_true rfl) dL_proposes_192 ?_
          refine g_aload_n hB 2 dL_proposes_193 rfl rfl ?_
          refine g_iconst hB (nI 4) dL_proposes_194 rfl ?_
          refine g_dup2 hB rfl rfl dL_proposes_195 ?_
          refine g_iald hB 22 0 4 (n := 12) (by decide) rfl (by first | assumption | omega) (Nat.le_of_ble_eq_true rfl) dL_proposes_196 ?_
          refine g_top (nI (nc)) (by simp [uM_ap, q4]) ?_
          refine g_iconst hB (nI 1) dL_proposes_197 rfl ?_
          refine g_iadd hB dL_proposes_198 ?_
          refine g_top (nI (nc + 1)) (nI_add _ _) ?_
          refine s_iast hB 22 0 4 (n := 12) (by decide) (fun _ => rfl) (by first | assumption | omega) (Nat.le_of_ble_eq_true rfl) dL_proposes_199 ?_
          refine g_gh (prA S nc a p k w t) prA_gh ?_
          refine g_aload_n hB 0 dL_proposes_200 rfl rfl ?_
          refine g_iconst hB (nI 0) dL_proposes_201 rfl ?_
          refine g_iload hB 5 dL_proposes_202 rfl ?_
          refine g_iload hB 6 dL_proposes_204 rfl ?_
          refine g_aload_n hB 2 dL_proposes_206 rfl rfl ?_
          refine g_iconst hB (nI 2) dL_proposes_207 rfl ?_
          refine g_iald hB 22 0 2 (n := 12) (by decide) rfl (by first | assumption | omega) (Nat.le_of_ble_eq_true rfl) dL_proposes_208 ?_
          refine g_top (nI (ng)) (a2) ?_
          refine n_icmp_ge hB j ng 217 dL_proposes_209 (by decide) (by omega) (by omega) (fun c_209 => ?_) (fun c_209 => ?_)
          · refine g_bipush hB (nI 100) dL_proposes_217 rfl ?_
            refine g_iload hB 6 dL_proposes_219 rfl ?_
            refine g_iadd hB dL_proposes_221 ?_
            refine g_top (nI (100 + j)) (nI_add _ _) ?_
            refine g_aload_n hB 2 dL_proposes_222 rfl rfl ?_
            refine g_iconst hB (nI 2) dL_proposes_223 rfl ?_
            refine g_iald hB 22 0 2 (n := 12) (by decide) rfl (by first | assumption | omega) (Nat.le_of_ble_eq_true rfl) dL_proposes_224 ?_
            refine g_top (nI (ng)) (a2) ?_
            refine g_isub hB dL_proposes_225 ?_
            refine g_top (nI (pl7 p)) (by rw [e2 (by omega)]; exact pk_sub (by omega)) ?_
            refine g_iload hB 7 dL_proposes_226 rfl ?_
            refine g_iload hB 8 dL_proposes_228 rfl ?_
            refine g_callHSI hB (c_L_calls_propose hl _ ng nm nc t pa hKI _ _ _ _ (by rw [hc0]; decide) (by rw [hc0]; decide)) k_L_139 yk_L_calls ⟨Nat.le_of_ble_eq_true rfl, Nat.le_of_ble_eq_true rfl⟩ rfl (Nat.le_of_ble_eq_true rfl) ⟨Nat.le_of_ble_eq_true rfl, Nat.le_of_ble_eq_true rfl⟩ dL_proposes_230 ?_
            rintro _ _ ⟨rfl, rfl⟩
            refine g_top (nI (nc)) (by rw [hc0]; rfl) ?_
            refine g_iload hB 10 dL_proposes_233 rfl ?_
            refine n_icmp_ne hB nc nc 242 dL_proposes_235 (by decide) (by omega) (by omega) (fun c_235 => ?_) (fun c_235 => ?_)
            · have d_235 : decide (nc = nc) = false := decide_eq_false c_235
              exact absurd rfl c_235
            · have d_235 : decide (nc = nc) = true := decide_eq_true c_235
              refine g_iconst hB (nI 1) dL_proposes_238 rfl ?_
              refine g_goto hB 243 dL_proposes_239 (by decide) ?_
              exact g_iret hB hr rfl (Nat.le_of_ble_eq_true rfl) (Nat.le_of_ble_eq_true rfl) (⟨_, rfl, rfl, by rw [hc0]; exact hT⟩) dL_proposes_243
          · refine g_iload hB 6 dL_proposes_212 rfl ?_
            refine g_top (nI (pl7 p)) (by rw [e1 (by omega)]) ?_
            refine g_goto hB 226 dL_proposes_214 (by decide) ?_
            refine g_iload hB 7 dL_proposes_226 rfl ?_
            refine g_iload hB 8 dL_proposes_228 rfl ?_
            refine g_callHSI hB (c_L_calls_propose hl _ ng nm nc t pa hKI _ _ _ _ (by rw [hc0]; decide) (by rw [hc0]; decide)) k_L_139 yk_L_calls ⟨Nat.le_of_ble_eq_true rfl, Nat.le_of_ble_eq_true rfl⟩ rfl (Nat.le_of_ble_eq_true rfl) ⟨Nat.le_of_ble_eq_true rfl, Nat.le_of_ble_eq_true rfl⟩ dL_proposes_230 ?_
            rintro _ _ ⟨rfl, rfl⟩
            refine g_top (nI (nc)) (by rw [hc0]; rfl) ?_
            refine g_iload hB 10 dL_proposes_233 rfl ?_
            refine n_icmp_ne hB nc nc 242 dL_proposes_235 (by decide) (by omega) (by omega) (fun c_235 => ?_) (fun c_235 => ?_)
            · have d_235 : decide (nc = nc) = false := decide_eq_false c_235
              exact absurd rfl c_235
            · have d_235 : decide (nc = nc) = true := decide_eq_true c_235
              refine g_iconst hB (nI 1) dL_proposes_238 rfl ?_
              refine g_goto hB 243 dL_proposes_239 (by decide) ?_
              exact g_iret hB hr rfl (Nat.le_of_ble_eq_true rfl) (Nat.le_of_ble_eq_true rfl) (⟨_, rfl, rfl, by rw [hc0]; exact hT⟩) dL_proposes_243
        · refine g_iload hB 6 dL_proposes_140 rfl ?_
          refine g_top (nI (p)) (by rw [h1 (by omega)]) ?_
          refine g_goto hB 153 dL_proposes_142 (by decide) ?_
          refine s_iast hB 22 3 (5 * nc) (n := 60) (by decide) (fun _ => rfl) (by first | assumption | omega) (Nat.le_of_ble_eq_true rfl) dL_proposes_153 ?_
          refine g_aload_n hB 3 dL_proposes_154 rfl rfl ?_
          refine g_iload hB 11 dL_proposes_155 rfl ?_
          refine g_iconst hB (nI 1) dL_proposes_157 rfl ?_
          refine g_iadd hB dL_proposes_158 ?_
          refine g_top (nI (5 * nc + 1)) (nI_add _ _) ?_
          refine g_iload hB 7 dL_proposes_159 rfl ?_
          refine s_iast hB 22 3 (5 * nc + 1) (n := 60) (by decide) (fun _ => rfl) (by first | assumption | omega) (Nat.le_of_ble_eq_true rfl) dL_proposes_161 ?_
          refine g_aload_n hB 3 dL_proposes_162 rfl rfl ?_
          refine g_iload hB 11 dL_proposes_163 rfl ?_
          refine g_iconst hB (nI 2) dL_proposes_165 rfl ?_
          refine g_iadd hB dL_proposes_166 ?_
          refine g_top (nI (5 * nc + 2)) (nI_add _ _) ?_
          refine g_iload hB 8 dL_proposes_167 rfl ?_
          refine s_iast hB 22 3 (5 * nc + 2) (n := 60) (by decide) (fun _ => rfl) (by first | assumption | omega) (Nat.le_of_ble_eq_true rfl) dL_proposes_169 ?_
          refine g_aload hB 4 dL_proposes_170 rfl ?_
          refine g_iconst hB (nI 2) dL_proposes_172 rfl ?_
          refine g_aload_n hB 2 dL_proposes_173 rfl rfl ?_
          refine g_iconst hB (nI 4) dL_proposes_174 rfl ?_
          refine g_iald hB 22 0 4 (n := 12) (by decide) rfl (by first | assumption | omega) (Nat.le_of_ble_eq_true rfl) dL_proposes_175 ?_
          refine g_top (nI (nc)) (by simp [uM_ap, q4]) ?_
          refine g_imul hB dL_proposes_176 ?_
          refine g_top (nI (2 * nc)) (pk_mul _ _) ?_
          refine g_iload hB 5 dL_proposes_177 rfl ?_
          refine s_iast hB 22 5 (2 * nc) (n := 24) (by decide) (fun _ => rfl) (by first | assumption | omega) (Nat.le_of_ble_eq_true rfl) dL_proposes_179 ?_
          refine g_aload hB 4 dL_proposes_180 rfl ?_
          refine g_iconst hB (nI 2) dL_proposes_182 rfl ?_
          refine g_aload_n hB 2 dL_proposes_183 rfl rfl ?_
          refine g_iconst hB (nI 4) dL_proposes_184 rfl ?_
          refine g_iald hB 22 0 4 (n := 12) (by decide) rfl (by first | assumption | omega) (Nat.le_of_ble_eq_true rfl) dL_proposes_185 ?_
          refine g_top (nI (nc)) (by simp [uM_ap, q4]) ?_
          refine g_imul hB dL_proposes_186 ?_
          refine g_top (nI (2 * nc)) (pk_mul _ _) ?_
          refine g_iconst hB (nI 1) dL_proposes_187 rfl ?_
          refine g_iadd hB dL_proposes_188 ?_
          refine g_top (nI (2 * nc + 1)) (nI_add _ _) ?_
          refine g_aload_n hB 2 dL_proposes_189 rfl rfl ?_
          refine g_iconst hB (nI 0) dL_proposes_190 rfl ?_
          refine g_iald hB 22 0 0 (n := 12) (by decide) rfl (by first | assumption | omega) (Nat.le_of_ble_eq_true rfl) dL_proposes_191 ?_
          refine g_top (nI (t)) (by simp [uM_ap, q0]) ?_
          refine s_iast hB 22 5 (2 * nc + 1) (n := 24) (by decide) (fun _ => rfl) (by first | assumption | omega) (Nat.le_of_ble_eq_true rfl) dL_proposes_192 ?_
          refine g_aload_n hB 2 dL_proposes_193 rfl rfl ?_
          refine g_iconst hB (nI 4) dL_proposes_194 rfl ?_
          refine g_dup2 hB rfl rfl dL_proposes_195 ?_
          refine g_iald hB 22 0 4 (n := 12) (by decide) rfl (by first | assumption | omega) (Nat.le_of_ble_eq_true rfl) dL_proposes_196 ?_
          refine g_top (nI (nc)) (by simp [uM_ap, q4]) ?_
          refine g_iconst hB (nI 1) dL_proposes_197 rfl ?_
          refine g_iadd hB dL_proposes_198 ?_
          refine g_top (nI (nc + 1)) (nI_add _ _) ?_
          refine s_iast hB 22 0 4 (n := 12) (by decide) (fun _ => rfl) (by first | assumption | omega) (Nat.le_of_ble_eq_true rfl) dL_proposes_199 ?_
          refine g_gh (prA S nc a p k w t) prA_gh ?_
          refine g_aload_n hB 0 dL_proposes_200 rfl rfl ?_
          refine g_iconst hB (nI 0) dL_proposes_201 rfl ?_
          refine g_iload hB 5 dL_proposes_202 rfl ?_
          refine g_iload hB 6 dL_proposes_204 rfl ?_
          refine g_aload_n hB 2 dL_proposes_206 rfl rfl ?_
          refine g_iconst hB (nI 2) dL_proposes_207 rfl ?_
          refine g_iald hB 22 0 2 (n := 12) (by decide) rfl (by first | assumption | omega) (Nat.le_of_ble_eq_true rfl) dL_proposes_208 ?_
          refine g_top (nI (ng)) (a2) ?_
          refine n_icmp_ge hB j ng 217 dL_proposes_209 (by decide) (by omega) (by omega) (fun c_209 => ?_) (fun c_209 => ?_)
          · refine g_bipush hB (nI 100) dL_proposes_217 rfl ?_
            refine g_iload hB 6 dL_proposes_219 rfl ?_
            refine g_iadd hB dL_proposes_221 ?_
            refine g_top (nI (100 + j)) (nI_add _ _) ?_
            refine g_aload_n hB 2 dL_proposes_222 rfl rfl ?_
            refine g_iconst hB (nI 2) dL_proposes_223 rfl ?_
            refine g_iald hB 22 0 2 (n := 12) (by decide) rfl (by first | assumption | omega) (Nat.le_of_ble_eq_true rfl) dL_proposes_224 ?_
            refine g_top (nI (ng)) (a2) ?_
            refine g_isub hB dL_proposes_225 ?_
            refine g_top (nI (pl7 p)) (by rw [e2 (by omega)]; exact pk_sub (by omega)) ?_
            refine g_iload hB 7 dL_proposes_226 rfl ?_
            refine g_iload hB 8 dL_proposes_228 rfl ?_
            refine g_callHSI hB (c_L_calls_propose hl _ ng nm nc t pa hKI _ _ _ _ (by rw [hc0]; decide) (by rw [hc0]; decide)) k_L_139 yk_L_calls ⟨Nat.le_of_ble_eq_true rfl, Nat.le_of_ble_eq_true rfl⟩ rfl (Nat.le_of_ble_eq_true rfl) ⟨Nat.le_of_ble_eq_true rfl, Nat.le_of_ble_eq_true rfl⟩ dL_proposes_230 ?_
            rintro _ _ ⟨rfl, rfl⟩
            refine g_top (nI (nc)) (by rw [hc0]; rfl) ?_
            refine g_iload hB 10 dL_proposes_233 rfl ?_
            refine n_icmp_ne hB nc nc 242 dL_proposes_235 (by decide) (by omega) (by omega) (fun c_235 => ?_) (fun c_235 => ?_)
            · have d_235 : decide (nc = nc) = false := decide_eq_false c_235
              exact absurd rfl c_235
            · have d_235 : decide (nc = nc) = true := decide_eq_true c_235
              refine g_iconst hB (nI 1) dL_proposes_238 rfl ?_
              refine g_goto hB 243 dL_proposes_239 (by decide) ?_
              exact g_iret hB hr rfl (Nat.le_of_ble_eq_true rfl) (Nat.le_of_ble_eq_true rfl) (⟨_, rfl, rfl, by rw [hc0]; exact hT⟩) dL_proposes_243
          · refine g_iload hB 6 dL_proposes_212 rfl ?_
            refine g_top (nI (pl7 p)) (by rw [e1 (by omega)]) ?_
            refine g_goto hB 226 dL_proposes_214 (by decide) ?_
            refine g_iload hB 7 dL_proposes_226 rfl ?_
            refine g_iload hB 8 dL_proposes_228 rfl ?_
            refine g_callHSI hB (c_L_calls_propose hl _ ng nm nc t pa hKI _ _ _ _ (by rw [hc0]; decide) (by rw [hc0]; decide)) k_L_139 yk_L_calls ⟨Nat.le_of_ble_eq_true rfl, Nat.le_of_ble_eq_true rfl⟩ rfl (Nat.le_of_ble_eq_true rfl) ⟨Nat.le_of_ble_eq_true rfl, Nat.le_of_ble_eq_true rfl⟩ dL_proposes_230 ?_
            rintro _ _ ⟨rfl, rfl⟩
            refine g_top (nI (nc)) (by rw [hc0]; rfl) ?_
            refine g_iload hB 10 dL_proposes_233 rfl ?_
            refine n_icmp_ne hB nc nc 242 dL_proposes_235 (by decide) (by omega) (by omega) (fun c_235 => ?_) (fun c_235 => ?_)
            · have d_235 : decide (nc = nc) = false := decide_eq_false c_235
              exact absurd rfl c_235
            · have d_235 : decide (nc = nc) = true := decide_eq_true c_235
              refine g_iconst hB (nI 1) dL_proposes_238 rfl ?_
              refine g_goto hB 243 dL_proposes_239 (by decide) ?_
              exact g_iret hB hr rfl (Nat.le_of_ble_eq_true rfl) (Nat.le_of_ble_eq_true rfl) (⟨_, rfl, rfl, by rw [hc0]; exact hT⟩) dL_proposes_243
    · have hc3 := prC_3 h hng4 hnm3 hn ha hp hp1 hp2 hk hw hs
      have hg : cntI (S 22 0 10) (nI a) = true := by rw [(hG a ha).2.1]; exact decide_eq_true hs
      refine g_aload_n hB 2 dL_proposes_83 rfl rfl ?_
      refine g_bipush hB (nI 10) dL_proposes_84 rfl ?_
      refine g_iald hB 22 0 10 (n := 12) (by decide) rfl (by first | assumption | omega) (Nat.le_of_ble_eq_true rfl) dL_proposes_86 ?_
      refine g_iload hB 5 dL_proposes_87 rfl ?_
      refine g_ishr hB dL_proposes_89 ?_
      refine g_iconst hB (nI 1) dL_proposes_90 rfl ?_
      refine g_iand hB dL_proposes_91 ?_
      refine g_if_ne hB 99 dL_proposes_92 (by decide) (fun c_92 => ?_) (fun c_92 => ?_)
      · refine g_iconst hB (nI 0) dL_proposes_99 rfl ?_
        refine g_istore hB 9 dL_proposes_100 (by decide) ?_
        refine g_iload hB 9 dL_proposes_102 rfl ?_
        refine g_if_eq hB 113 dL_proposes_104 (by decide) (fun _ => ?_) (fun z => absurd rfl z)
        refine g_bipush hB (-3) dL_proposes_113 rfl ?_
        refine g_istore hB 10 dL_proposes_115 (by decide) ?_
        refine g_iload hB 9 dL_proposes_117 rfl ?_
        refine g_if_eq hB 200 dL_proposes_119 (by decide) (fun _ => ?_) (fun z => absurd rfl z)
        refine g_aload_n hB 0 dL_proposes_200 rfl rfl ?_
        refine g_iconst hB (nI 0) dL_proposes_201 rfl ?_
        refine g_iload hB 5 dL_proposes_202 rfl ?_
        refine g_iload hB 6 dL_proposes_204 rfl ?_
        refine g_aload_n hB 2 dL_proposes_206 rfl rfl ?_
        refine g_iconst hB (nI 2) dL_proposes_207 rfl ?_
        refine g_iald hB 22 0 2 (n := 12) (by decide) rfl (by first | assumption | omega) (Nat.le_of_ble_eq_true rfl) dL_proposes_208 ?_
        refine g_top (nI (ng)) (q2) ?_
        refine n_icmp_ge hB j ng 217 dL_proposes_209 (by decide) (by omega) (by omega) (fun c_209 => ?_) (fun c_209 => ?_)
        · refine g_bipush hB (nI 100) dL_proposes_217 rfl ?_
          refine g_iload hB 6 dL_proposes_219 rfl ?_
          refine g_iadd hB dL_proposes_221 ?_
          refine g_top (nI (100 + j)) (nI_add _ _) ?_
          refine g_aload_n hB 2 dL_proposes_222 rfl rfl ?_
          refine g_iconst hB (nI 2) dL_proposes_223 rfl ?_
          refine g_iald hB 22 0 2 (n := 12) (by decide) rfl (by first | assumption | omega) (Nat.le_of_ble_eq_true rfl) dL_proposes_224 ?_
          refine g_top (nI (ng)) (q2) ?_
          refine g_isub hB dL_proposes_225 ?_
          refine g_top (nI (pl7 p)) (by rw [e2 (by omega)]; exact pk_sub (by omega)) ?_
          refine g_iload hB 7 dL_proposes_226 rfl ?_
          refine g_iload hB 8 dL_proposes_228 rfl ?_
          refine g_callHSI hB (c_L_calls_propose hl _ ng nm nc t pa h.1 _ _ _ _ (by rw [hc3]; decide) (by rw [hc3]; decide)) k_L_139 yk_L_calls ⟨Nat.le_of_ble_eq_true rfl, Nat.le_of_ble_eq_true rfl⟩ rfl (Nat.le_of_ble_eq_true rfl) ⟨Nat.le_of_ble_eq_true rfl, Nat.le_of_ble_eq_true rfl⟩ dL_proposes_230 ?_
          rintro _ _ ⟨rfl, rfl⟩
          refine g_top ((-3)) (by rw [hc3]; rfl) ?_
          refine g_iload hB 10 dL_proposes_233 rfl ?_
          refine g_icmp_ne hB 242 dL_proposes_235 (by decide) (fun c_235 => ?_) (fun c_235 => ?_)
          · exact absurd rfl c_235
          · refine g_iconst hB (nI 1) dL_proposes_238 rfl ?_
            refine g_goto hB 243 dL_proposes_239 (by decide) ?_
            exact g_iret hB hr rfl (Nat.le_of_ble_eq_true rfl) (Nat.le_of_ble_eq_true rfl) (⟨_, rfl, rfl, by rw [hc3]; exact TI_s hTI⟩) dL_proposes_243
        · refine g_iload hB 6 dL_proposes_212 rfl ?_
          refine g_top (nI (pl7 p)) (by rw [e1 (by omega)]) ?_
          refine g_goto hB 226 dL_proposes_214 (by decide) ?_
          refine g_iload hB 7 dL_proposes_226 rfl ?_
          refine g_iload hB 8 dL_proposes_228 rfl ?_
          refine g_callHSI hB (c_L_calls_propose hl _ ng nm nc t pa h.1 _ _ _ _ (by rw [hc3]; decide) (by rw [hc3]; decide)) k_L_139 yk_L_calls ⟨Nat.le_of_ble_eq_true rfl, Nat.le_of_ble_eq_true rfl⟩ rfl (Nat.le_of_ble_eq_true rfl) ⟨Nat.le_of_ble_eq_true rfl, Nat.le_of_ble_eq_true rfl⟩ dL_proposes_230 ?_
          rintro _ _ ⟨rfl, rfl⟩
          refine g_top ((-3)) (by rw [hc3]; rfl) ?_
          refine g_iload hB 10 dL_proposes_233 rfl ?_
          refine g_icmp_ne hB 242 dL_proposes_235 (by decide) (fun c_235 => ?_) (fun c_235 => ?_)
          · exact absurd rfl c_235
          · refine g_iconst hB (nI 1) dL_proposes_238 rfl ?_
            refine g_goto hB 243 dL_proposes_239 (by decide) ?_
            exact g_iret hB hr rfl (Nat.le_of_ble_eq_true rfl) (Nat.le_of_ble_eq_true rfl) (⟨_, rfl, rfl, by rw [hc3]; exact TI_s hTI⟩) dL_proposes_243
      · exact absurd ((decide_eq_false (fun z => z c_92)).symm.trans hg) (by decide)
  refine g_iload_n hB 1 dL_proposes_0 rfl rfl ?_
  refine g_iconst hB (nI 5) dL_proposes_1 rfl ?_
  refine g_callSI hB (c_L_low _ _ _ (by omega) (by omega)) k_L_125 yk_L_low ⟨Nat.le_of_ble_eq_true rfl, Nat.le_of_ble_eq_true rfl⟩ rfl (Nat.le_of_ble_eq_true rfl) ⟨Nat.le_of_ble_eq_true rfl, Nat.le_of_ble_eq_true rfl⟩ dL_proposes_2 ?_
  rintro _ _ ⟨a, ha, rfl, rfl⟩
  refine g_istore hB 5 dL_proposes_5 (by decide) ?_
  refine g_iload_n hB 1 dL_proposes_7 rfl rfl ?_
  refine g_iconst hB (nI 3) dL_proposes_8 rfl ?_
  refine g_ishr hB dL_proposes_9 ?_
  refine g_aload_n hB 2 dL_proposes_10 rfl rfl ?_
  refine g_iconst hB (nI 2) dL_proposes_11 rfl ?_
  refine g_iald hB 22 0 2 (n := 12) (by decide) rfl (by first | assumption | omega) (Nat.le_of_ble_eq_true rfl) dL_proposes_12 ?_
  refine g_top (nI (ng)) (q2) ?_
  refine g_aload_n hB 2 dL_proposes_13 rfl rfl ?_
  refine g_iconst hB (nI 3) dL_proposes_14 rfl ?_
  refine g_iald hB 22 0 3 (n := 12) (by decide) rfl (by first | assumption | omega) (Nat.le_of_ble_eq_true rfl) dL_proposes_15 ?_
  refine g_top (nI (nm)) (q3) ?_
  refine g_iadd hB dL_proposes_16 ?_
  refine g_top (nI (ng + nm)) (nI_add _ _) ?_
  refine g_callSI hB (c_L_low _ _ _ (by omega) (by omega)) k_L_125 yk_L_low ⟨Nat.le_of_ble_eq_true rfl, Nat.le_of_ble_eq_true rfl⟩ rfl (Nat.le_of_ble_eq_true rfl) ⟨Nat.le_of_ble_eq_true rfl, Nat.le_of_ble_eq_true rfl⟩ dL_proposes_17 ?_
  rintro _ _ ⟨j, hj, rfl, rfl⟩
  refine g_istore hB 6 dL_proposes_20 (by decide) ?_
  refine g_iload_n hB 1 dL_proposes_22 rfl rfl ?_
  refine g_bipush hB (nI 6) dL_proposes_23 rfl ?_
  refine g_ishr hB dL_proposes_25 ?_
  refine g_iload_n hB 1 dL_proposes_26 rfl rfl ?_
  refine g_bipush hB (nI 12) dL_proposes_27 rfl ?_
  refine g_ishr hB dL_proposes_29 ?_
  refine g_iconst hB (nI 2) dL_proposes_30 rfl ?_
  refine g_callSI hB (c_L_low _ _ _ (by omega) (by omega)) k_L_125 yk_L_low ⟨Nat.le_of_ble_eq_true rfl, Nat.le_of_ble_eq_true rfl⟩ rfl (Nat.le_of_ble_eq_true rfl) ⟨Nat.le_of_ble_eq_true rfl, Nat.le_of_ble_eq_true rfl⟩ dL_proposes_31 ?_
  rintro _ _ ⟨z, hz, rfl, rfl⟩
  refine g_if_ne hB 41 dL_proposes_34 (by decide) (fun c_34 => ?_) (fun c_34 => ?_)
  · refine g_iconst hB (nI 2) dL_proposes_41 rfl ?_
    refine g_callSI hB (c_L_low _ _ _ (by omega) (by omega)) k_L_125 yk_L_low ⟨Nat.le_of_ble_eq_true rfl, Nat.le_of_ble_eq_true rfl⟩ rfl (Nat.le_of_ble_eq_true rfl) ⟨Nat.le_of_ble_eq_true rfl, Nat.le_of_ble_eq_true rfl⟩ dL_proposes_42 ?_
    rintro _ _ ⟨k, hk, rfl, rfl⟩
    refine g_istore hB 7 dL_proposes_45 (by decide) ?_
    refine g_iload_n hB 1 dL_proposes_47 rfl rfl ?_
    refine g_bipush hB (nI 8) dL_proposes_48 rfl ?_
    refine g_ishr hB dL_proposes_50 ?_
    refine g_iconst hB (nI 5) dL_proposes_51 rfl ?_
    refine g_callSI hB (c_L_low _ _ _ (by omega) (by omega)) k_L_125 yk_L_low ⟨Nat.le_of_ble_eq_true rfl, Nat.le_of_ble_eq_true rfl⟩ rfl (Nat.le_of_ble_eq_true rfl) ⟨Nat.le_of_ble_eq_true rfl, Nat.le_of_ble_eq_true rfl⟩ dL_proposes_52 ?_
    rintro _ _ ⟨y, hy, rfl, rfl⟩
    refine g_if_ne hB 72 dL_proposes_55 (by decide) (fun c_55 => ?_) (fun c_55 => ?_)
    · refine g_iload_n hB 1 dL_proposes_72 rfl rfl ?_
      refine g_bipush hB (nI 7) dL_proposes_73 rfl ?_
      refine g_ishr hB dL_proposes_75 ?_
      refine g_bipush hB (nI 100) dL_proposes_76 rfl ?_
      refine g_callSI hB (c_L_low _ _ _ (by omega) (by omega)) k_L_125 yk_L_low ⟨Nat.le_of_ble_eq_true rfl, Nat.le_of_ble_eq_true rfl⟩ rfl (Nat.le_of_ble_eq_true rfl) ⟨Nat.le_of_ble_eq_true rfl, Nat.le_of_ble_eq_true rfl⟩ dL_proposes_78 ?_
      rintro _ _ ⟨w, hw, rfl, rfl⟩
      refine g_istore hB 8 dL_proposes_81 (by decide) ?_
      exact g_sub _ rfl (mid a j k (w) (if j < ng then j else 4 + j - ng) ha hj (by omega) (by omega) (fun z => if_pos z) (fun z => if_neg (by omega)))
    · refine g_bipush hB (nI 100) dL_proposes_58 rfl ?_
      refine g_iload_n hB 1 dL_proposes_60 rfl rfl ?_
      refine g_bipush hB (nI 9) dL_proposes_61 rfl ?_
      refine g_ishr hB dL_proposes_63 ?_
      refine g_iconst hB (nI 2) dL_proposes_64 rfl ?_
      refine g_callSI hB (c_L_low _ _ _ (by omega) (by omega)) k_L_125 yk_L_low ⟨Nat.le_of_ble_eq_true rfl, Nat.le_of_ble_eq_true rfl⟩ rfl (Nat.le_of_ble_eq_true rfl) ⟨Nat.le_of_ble_eq_true rfl, Nat.le_of_ble_eq_true rfl⟩ dL_proposes_65 ?_
      rintro _ _ ⟨w, hw, rfl, rfl⟩
      refine g_iadd hB dL_proposes_68 ?_
      refine g_top (nI (100 + w)) (nI_add _ _) ?_
      refine g_goto hB 81 dL_proposes_69 (by decide) ?_
      refine g_istore hB 8 dL_proposes_81 (by decide) ?_
      exact g_sub _ rfl (mid a j k (100 + w) (if j < ng then j else 4 + j - ng) ha hj (by omega) (by omega) (fun z => if_pos z) (fun z => if_neg (by omega)))
  · refine g_iconst hB (nI 4) dL_proposes_37 rfl ?_
    refine g_goto hB 42 dL_proposes_38 (by decide) ?_
    refine g_callSI hB (c_L_low _ _ _ (by omega) (by omega)) k_L_125 yk_L_low ⟨Nat.le_of_ble_eq_true rfl, Nat.le_of_ble_eq_true rfl⟩ rfl (Nat.le_of_ble_eq_true rfl) ⟨Nat.le_of_ble_eq_true rfl, Nat.le_of_ble_eq_true rfl⟩ dL_proposes_42 ?_
    rintro _ _ ⟨k, hk, rfl, rfl⟩
    refine g_istore hB 7 dL_proposes_45 (by decide) ?_
    refine g_iload_n hB 1 dL_proposes_47 rfl rfl ?_
    refine g_bipush hB (nI 8) dL_proposes_48 rfl ?_
    refine g_ishr hB dL_proposes_50 ?_
    refine g_iconst hB (nI 5) dL_proposes_51 rfl ?_
    refine g_callSI hB (c_L_low _ _ _ (by omega) (by omega)) k_L_125 yk_L_low ⟨Nat.le_of_ble_eq_true rfl, Nat.le_of_ble_eq_true rfl⟩ rfl (Nat.le_of_ble_eq_true rfl) ⟨Nat.le_of_ble_eq_true rfl, Nat.le_of_ble_eq_true rfl⟩ dL_proposes_52 ?_
    rintro _ _ ⟨y, hy, rfl, rfl⟩
    refine g_if_ne hB 72 dL_proposes_55 (by decide) (fun c_55 => ?_) (fun c_55 => ?_)
    · refine g_iload_n hB 1 dL_proposes_72 rfl rfl ?_
      refine g_bipush hB (nI 7) dL_proposes_73 rfl ?_
      refine g_ishr hB dL_proposes_75 ?_
      refine g_bipush hB (nI 100) dL_proposes_76 rfl ?_
      refine g_callSI hB (c_L_low _ _ _ (by omega) (by omega)) k_L_125 yk_L_low ⟨Nat.le_of_ble_eq_true rfl, Nat.le_of_ble_eq_true rfl⟩ rfl (Nat.le_of_ble_eq_true rfl) ⟨Nat.le_of_ble_eq_true rfl, Nat.le_of_ble_eq_true rfl⟩ dL_proposes_78 ?_
      rintro _ _ ⟨w, hw, rfl, rfl⟩
      refine g_istore hB 8 dL_proposes_81 (by decide) ?_
      exact g_sub _ rfl (mid a j k (w) (if j < ng then j else 4 + j - ng) ha hj (by omega) (by omega) (fun z => if_pos z) (fun z => if_neg (by omega)))
    · refine g_bipush hB (nI 100) dL_proposes_58 rfl ?_
      refine g_iload_n hB 1 dL_proposes_60 rfl rfl ?_
      refine g_bipush hB (nI 9) dL_proposes_61 rfl ?_
      refine g_ishr hB dL_proposes_63 ?_
      refine g_iconst hB (nI 2) dL_proposes_64 rfl ?_
      refine g_callSI hB (c_L_low _ _ _ (by omega) (by omega)) k_L_125 yk_L_low ⟨Nat.le_of_ble_eq_true rfl, Nat.le_of_ble_eq_true rfl⟩ rfl (Nat.le_of_ble_eq_true rfl) ⟨Nat.le_of_ble_eq_true rfl, Nat.le_of_ble_eq_true rfl⟩ dL_proposes_65 ?_
      rintro _ _ ⟨w, hw, rfl, rfl⟩
      refine g_iadd hB dL_proposes_68 ?_
      refine g_top (nI (100 + w)) (nI_add _ _) ?_
      refine g_goto hB 81 dL_proposes_69 (by decide) ?_
      refine g_istore hB 8 dL_proposes_81 (by decide) ?_
      exact g_sub _ rfl (mid a j k (100 + w) (if j < ng then j else 4 + j - ng) ha hj (by omega) (by omega) (fun z => if_pos z) (fun z => if_neg (by omega)))
end L10
