/-! the law: a turn after the other -/
section L14
variable {p : Program} {l : Launch} {e : Env} {s : State} {m : MethodId} {args : Array Value} {below : List Frame} {meth : Method} {c : Code} {D : va_G} {ad : Nat → Nat → Nat} {A : Nat → Prop} {Q : State → Prop} {ca : Nat → ClassId} {b L : Nat} {xs : Nat → Int32}
theorem amM_22 {X : Mem} {nm g : Nat} : amM X nm g 22 = X 22 := funext fun a => (uM_k (by omega)).trans (congrFun (eg_k (by decide) (by decide) (by decide)) a)

theorem law_turns (hl : l.stackTraces = false) (hB : MB p s m args meth c cL_law RL 14 D ca SR A) (hX : va_X b L xs s s.heap) (hbl : b < s.heap.size) (hbA : ¬ A b) (hL260 : L ≤ 260) (hexit : ∀ (S : Mem) (K N : Nat) (lvs : List (Nat × Value)), K ≤ 600104 → N ≤ 7301314 → G p l e room_1 s m args below meth c D ad A 14 Q K N CNT (SH ad ca S) 497 lvs [.int (nI 1)]) : ∀ (n i : Nat) (S : Mem), 90 - i < n → i ≤ 90 → TI S i → G p l e room_1 s m args below meth c D ad A 14 Q (1000 + 2000 * i) (10000 + 12000 * i) CNT (SH ad ca (S)) 87 [(0, .ref b), (1, .ref (ad 0 0)), (2, .ref (ad 22 0)), (3, .ref (ad 22 1)), (4, .ref (ad 22 2)), (5, .ref (ad 22 3)), (6, .ref (ad 22 4)), (7, .ref (ad 22 5)), (8, .ref (ad 22 6)), (9, .int (nI i))] [] := by
  intro n
  induction n with
  | zero => intro i S y1; omega
  | succ n ih =>
    intro i S y1 y2 hTI
    rcases Nat.lt_or_ge i 90 with h_i | h_i
    · have so : ∀ (T : Mem) (v : Int32), TI T (i + 1) → G p l e room_1 s m args below meth c D ad A 14 Q (1000 + 2000 * i + 1500) (10000 + 12000 * i + 9000) CNT (SH ad ca (T)) 462 [(0, .ref b), (1, .ref (ad 0 0)), (2, .ref (ad 22 0)), (3, .ref (ad 22 1)), (4, .ref (ad 22 2)), (5, .ref (ad 22 3)), (6, .ref (ad 22 4)), (7, .ref (ad 22 5)), (8, .ref (ad 22 6)), (9, .int (nI i)), (10, .int (v)), (12, .int (bI (true)))] [] := by
        intro T v hT
        obtain ⟨ng, nm, nc, t, pa, rk, mo, h, hL1, hH, ht, hmo⟩ := id hT
        refine g_iload hB 12 dL_law_462 rfl ?_
        refine b_if_eq hB true 488 dL_law_464 (by decide) (fun z => by cases z) (fun _ => ?_)
        refine g_aload_n hB 1 dL_law_467 rfl rfl ?_
        refine g_iload hB 10 dL_law_468 rfl ?_
        refine g_iconst hB (nI 4) dL_law_470 rfl ?_
        refine g_ishr hB dL_law_471 ?_
        refine g_aload_n hB 2 dL_law_472 rfl rfl ?_
        refine g_aload_n hB 3 dL_law_473 rfl rfl ?_
        refine g_aload hB 4 dL_law_474 rfl ?_
        refine g_aload hB 5 dL_law_476 rfl ?_
        refine g_aload hB 6 dL_law_478 rfl ?_
        refine g_aload hB 8 dL_law_480 rfl ?_
        refine g_callSI hB (c_L_isSo hl _ ng nm nc t pa rk mo h hL1 _) k_L_204 yk_L_isSo ⟨Nat.le_of_ble_eq_true rfl, Nat.le_of_ble_eq_true rfl⟩ rfl (Nat.le_of_ble_eq_true rfl) ⟨by show _ ≤ 600104; first | (dsimp only; omega) | omega, by show _ ≤ 7301314; first | (dsimp only; omega) | omega⟩ dL_law_482 ?_
        rintro _ _ ⟨T2, rfl, rfl, hT2⟩
        refine b_if_ne hB true 490 dL_law_485 (by decide) (fun _ => ?_) (fun z => by cases z)
        refine g_iinc hB (nI (i + 1)) dL_law_490 rfl (nI_1 _) (by decide) ?_
        refine g_goto hB 87 dL_law_493 (by decide) ?_
        refine g_widen (k := 1000 + 2000 * (i + 1)) (n := 10000 + 12000 * (i + 1)) (by show _ ≤ _; first | (dsimp only; omega) | omega) (by show _ ≤ _; first | (dsimp only; omega) | omega) ?_
        exact g_sub _ rfl (ih (i + 1) T2 (by omega) (by omega) (TI_fr hT hT2))
      obtain ⟨ng, nm, nc, t, pa, rk, mo, h, hL, hH, ht, hmo⟩ := id hTI
      have hR := h.2.1
      have hL0 := hL
      obtain ⟨⟨⟨q0, q1, q2, q3, q4, q5⟩, hng1, hng4, hnm3, hnc12, ht20, hrk20, hpa12⟩, hD, hG, hN, hT, hZ, hC, hCz, hA, hGa, hE⟩ := hL
      have hbd := qv_bd h
      have hrkm : rk ≤ mo := h.2.2.1.1.2.2
      have am : ∀ (v : Int32) (a : Nat), nm < 3 → G p l e room_1 s m args below meth c D ad A 14 Q (1000 + 2000 * i) (10000 + 12000 * i) CNT (SH ad ca (S)) 132 [(0, .ref b), (1, .ref (ad 0 0)), (2, .ref (ad 22 0)), (3, .ref (ad 22 1)), (4, .ref (ad 22 2)), (5, .ref (ad 22 3)), (6, .ref (ad 22 4)), (7, .ref (ad 22 5)), (8, .ref (ad 22 6)), (9, .int (nI i)), (10, .int (v)), (11, .int (nI a)), (12, .int (nI 1))] [] := by
        intro v a hn
        have hKI : ∀ g, KI (mcA S nm g) ng nm nc t pa := fun g => h.1
        refine g_iload hB 10 dL_law_132 rfl ?_
        refine g_iconst hB (nI 5) dL_law_134 rfl ?_
        refine g_ishr hB dL_law_135 ?_
        refine g_aload_n hB 2 dL_law_136 rfl rfl ?_
        refine g_iconst hB (nI 2) dL_law_137 rfl ?_
        refine g_iald hB 22 0 2 (n := 12) (by decide) rfl (by first | assumption | omega) (Nat.le_of_ble_eq_true rfl) dL_law_138 ?_
        refine g_top (nI (ng)) (q2) ?_
        refine g_callSI hB (c_L_low _ _ _ (by omega) (by omega)) k_L_125 yk_L_low ⟨Nat.le_of_ble_eq_true rfl, Nat.le_of_ble_eq_true rfl⟩ rfl (Nat.le_of_ble_eq_true rfl) ⟨by show _ ≤ 600104; first | (dsimp only; omega) | omega, by show _ ≤ 7301314; first | (dsimp only; omega) | omega⟩ dL_law_139 ?_
        rintro _ _ ⟨g, hg, rfl, rfl⟩
        refine g_istore hB 13 dL_law_142 (by decide) ?_
        refine g_aload_n hB 3 dL_law_144 rfl rfl ?_
        refine g_iconst hB (nI 4) dL_law_145 rfl ?_
        refine g_aload_n hB 2 dL_law_146 rfl rfl ?_
        refine g_iconst hB (nI 3) dL_law_147 rfl ?_
        refine g_iald hB 22 0 3 (n := 12) (by decide) rfl (by first | assumption | omega) (Nat.le_of_ble_eq_true rfl) dL_law_148 ?_
        refine g_top (nI (nm)) (q3) ?_
        refine g_iadd hB dL_law_149 ?_
        refine g_top (nI (4 + nm)) (nI_add _ _) ?_
        refine g_iload hB 13 dL_law_150 rfl ?_
        refine s_iast hB 22 1 (4 + nm) (n := 10) (by decide) (fun _ => rfl) (by first | assumption | omega) (Nat.le_of_ble_eq_true rfl) dL_law_152 ?_
        refine g_aload_n hB 2 dL_law_153 rfl rfl ?_
        refine g_iconst hB (nI 3) dL_law_154 rfl ?_
        refine g_dup2 hB rfl rfl dL_law_155 ?_
        refine g_iald hB 22 0 3 (n := 12) (by decide) rfl (by first | assumption | omega) (Nat.le_of_ble_eq_true rfl) dL_law_156 ?_
        refine g_top (nI (nm)) (by simp [uM_ap, q3]) ?_
        refine g_iconst hB (nI 1) dL_law_157 rfl ?_
        refine g_iadd hB dL_law_158 ?_
        refine g_top (nI (nm + 1)) (nI_add _ _) ?_
        refine s_iast hB 22 0 3 (n := 12) (by decide) (fun _ => rfl) (by first | assumption | omega) (Nat.le_of_ble_eq_true rfl) dL_law_159 ?_
        refine g_gh (mcA S nm g) mcA_gh ?_
        refine g_aload_n hB 1 dL_law_160 rfl rfl ?_
        refine g_iload hB 13 dL_law_161 rfl ?_
        refine g_callNVI hB (c_X5_addMachine hl _ ng nm nc t pa (hKI g) _) k_L_176 rfl yk_X5_addMachine ⟨Nat.le_of_ble_eq_true rfl, Nat.le_of_ble_eq_true rfl⟩ ⟨(by decide), _, _, _, rfl, rfl, rfl⟩ rfl (Nat.le_of_ble_eq_true rfl) ⟨by show _ ≤ 600104; first | (dsimp only; omega) | omega, by show _ ≤ 7301314; first | (dsimp only; omega) | omega⟩ dL_law_163 (fun X hX => nx_of (amC_0 hn hng4 hg) hX) ?_
        rintro _ _ ⟨-, rfl, rfl⟩
        refine g_aload_n hB 2 dL_law_166 rfl rfl ?_
        refine g_iconst hB (nI 3) dL_law_167 rfl ?_
        refine g_iald hB 22 0 3 (n := 12) (by decide) rfl (by first | assumption | omega) (Nat.le_of_ble_eq_true rfl) dL_law_168 ?_
        refine g_top (nI (nm + 1)) (by rw [amM_22]; simp [mcA, uM_ap]) ?_
        refine g_iconst hB (nI 1) dL_law_169 rfl ?_
        refine g_isub hB dL_law_170 ?_
        refine g_top (nI (nm)) (sub1) ?_
        refine n_icmp_ne hB nm nm 178 dL_law_171 (by decide) (by omega) (by omega) (fun c_171 => ?_) (fun c_171 => ?_)
        · have d_171 : decide (nm = nm) = false := decide_eq_false c_171
          exact absurd rfl c_171
        · have d_171 : decide (nm = nm) = true := decide_eq_true c_171
          refine g_iconst hB (nI 1) dL_law_174 rfl ?_
          refine g_goto hB 179 dL_law_175 (by decide) ?_
          refine g_istore hB 12 dL_law_179 (by decide) ?_
          refine g_goto hB 462 dL_law_181 (by decide) ?_
          refine g_widen (k := 1000 + 2000 * i + 1500) (n := 10000 + 12000 * i + 9000) (by show _ ≤ _; first | (dsimp only; omega) | omega) (by show _ ≤ _; first | (dsimp only; omega) | omega) ?_
          exact g_sub [(0, .ref b), (1, .ref (ad 0 0)), (2, .ref (ad 22 0)), (3, .ref (ad 22 1)), (4, .ref (ad 22 2)), (5, .ref (ad 22 3)), (6, .ref (ad 22 4)), (7, .ref (ad 22 5)), (8, .ref (ad 22 6)), (9, .int (nI i)), (10, .int (v)), (12, .int (bI (true)))] rfl (so (amM (mcA S nm g) nm (ix (nI g))) v (by rw [ix_nI (by omega)]; exact TI_mc h hL0 hH ht hmo hn hg))
      have ag : ∀ (v : Int32) (a : Nat), ng < 4 → G p l e room_1 s m args below meth c D ad A 14 Q (1000 + 2000 * i) (10000 + 12000 * i) CNT (SH ad ca (S)) 197 [(0, .ref b), (1, .ref (ad 0 0)), (2, .ref (ad 22 0)), (3, .ref (ad 22 1)), (4, .ref (ad 22 2)), (5, .ref (ad 22 3)), (6, .ref (ad 22 4)), (7, .ref (ad 22 5)), (8, .ref (ad 22 6)), (9, .int (nI i)), (10, .int (v)), (11, .int (nI a)), (12, .int (nI 1))] [] := by
        intro v a hn
        have hKI : ∀ g, KI (grA S ng g) ng nm nc t pa := fun g => h.1
        refine g_iload hB 10 dL_law_197 rfl ?_
        refine g_iconst hB (nI 5) dL_law_199 rfl ?_
        refine g_ishr hB dL_law_200 ?_
        refine g_aload_n hB 2 dL_law_201 rfl rfl ?_
        refine g_iconst hB (nI 2) dL_law_202 rfl ?_
        refine g_iald hB 22 0 2 (n := 12) (by decide) rfl (by first | assumption | omega) (Nat.le_of_ble_eq_true rfl) dL_law_203 ?_
        refine g_top (nI (ng)) (q2) ?_
        refine g_callSI hB (c_L_low _ _ _ (by omega) (by omega)) k_L_125 yk_L_low ⟨Nat.le_of_ble_eq_true rfl, Nat.le_of_ble_eq_true rfl⟩ rfl (Nat.le_of_ble_eq_true rfl) ⟨by show _ ≤ 600104; first | (dsimp only; omega) | omega, by show _ ≤ 7301314; first | (dsimp only; omega) | omega⟩ dL_law_204 ?_
        rintro _ _ ⟨g, hg, rfl, rfl⟩
        refine g_istore hB 13 dL_law_207 (by decide) ?_
        refine g_aload_n hB 3 dL_law_209 rfl rfl ?_
        refine g_aload_n hB 2 dL_law_210 rfl rfl ?_
        refine g_iconst hB (nI 2) dL_law_211 rfl ?_
        refine g_iald hB 22 0 2 (n := 12) (by decide) rfl (by first | assumption | omega) (Nat.le_of_ble_eq_true rfl) dL_law_212 ?_
        refine g_top (nI (ng)) (q2) ?_
        refine g_iload hB 13 dL_law_213 rfl ?_
        refine s_iast hB 22 1 ng (n := 10) (by decide) (fun _ => rfl) (by first | assumption | omega) (Nat.le_of_ble_eq_true rfl) dL_law_215 ?_
        refine g_aload_n hB 2 dL_law_216 rfl rfl ?_
        refine g_iconst hB (nI 2) dL_law_217 rfl ?_
        refine g_dup2 hB rfl rfl dL_law_218 ?_
        refine g_iald hB 22 0 2 (n := 12) (by decide) rfl (by first | assumption | omega) (Nat.le_of_ble_eq_true rfl) dL_law_219 ?_
        refine g_top (nI (ng)) (by simp [uM_ap, q2]) ?_
        refine g_iconst hB (nI 1) dL_law_220 rfl ?_
        refine g_iadd hB dL_law_221 ?_
        refine g_top (nI (ng + 1)) (nI_add _ _) ?_
        refine s_iast hB 22 0 2 (n := 12) (by decide) (fun _ => rfl) (by first | assumption | omega) (Nat.le_of_ble_eq_true rfl) dL_law_222 ?_
        refine g_gh (grA S ng g) grA_gh ?_
        refine g_aload_n hB 1 dL_law_223 rfl rfl ?_
        refine g_iload hB 13 dL_law_224 rfl ?_
        refine g_callNVI hB (c_X5_addGroup hl _ ng nm nc t pa (hKI g) _) k_L_179 rfl yk_X5_addGroup ⟨Nat.le_of_ble_eq_true rfl, Nat.le_of_ble_eq_true rfl⟩ ⟨(by decide), _, _, _, rfl, rfl, rfl⟩ rfl (Nat.le_of_ble_eq_true rfl) ⟨by show _ ≤ 600104; first | (dsimp only; omega) | omega, by show _ ≤ 7301314; first | (dsimp only; omega) | omega⟩ dL_law_226 (fun X hX => nx_of (agC_0 hn hg) hX) ?_
        rintro _ _ ⟨-, rfl, rfl⟩
        refine g_aload_n hB 2 dL_law_229 rfl rfl ?_
        refine g_iconst hB (nI 2) dL_law_230 rfl ?_
        refine g_iald hB 22 0 2 (n := 12) (by decide) rfl (by first | assumption | omega) (Nat.le_of_ble_eq_true rfl) dL_law_231 ?_
        refine g_top (nI (ng + 1)) (by simp [grA, uM_ap]) ?_
        refine g_iconst hB (nI 1) dL_law_232 rfl ?_
        refine g_isub hB dL_law_233 ?_
        refine g_top (nI (ng)) (sub1) ?_
        refine n_icmp_ne hB ng ng 241 dL_law_234 (by decide) (by omega) (by omega) (fun c_234 => ?_) (fun c_234 => ?_)
        · have d_234 : decide (ng = ng) = false := decide_eq_false c_234
          exact absurd rfl c_234
        · have d_234 : decide (ng = ng) = true := decide_eq_true c_234
          refine g_iconst hB (nI 1) dL_law_237 rfl ?_
          refine g_goto hB 242 dL_law_238 (by decide) ?_
          refine g_istore hB 12 dL_law_242 (by decide) ?_
          refine g_goto hB 462 dL_law_244 (by decide) ?_
          refine g_widen (k := 1000 + 2000 * i + 1500) (n := 10000 + 12000 * i + 9000) (by show _ ≤ _; first | (dsimp only; omega) | omega) (by show _ ≤ _; first | (dsimp only; omega) | omega) ?_
          exact g_sub [(0, .ref b), (1, .ref (ad 0 0)), (2, .ref (ad 22 0)), (3, .ref (ad 22 1)), (4, .ref (ad 22 2)), (5, .ref (ad 22 3)), (6, .ref (ad 22 4)), (7, .ref (ad 22 5)), (8, .ref (ad 22 6)), (9, .int (nI i)), (10, .int (v)), (12, .int (bI (true)))] rfl (so (uM (uM (grA S ng g) 1 1 ng (nI g)) 0 0 5 (nI (ng + 1))) v (TI_gr h hL0 hH ht hmo hn hg))
      have props : ∀ (v : Int32) (a : Nat), nc < 12 → G p l e room_1 s m args below meth c D ad A 14 Q (1000 + 2000 * i) (10000 + 12000 * i) CNT (SH ad ca (S)) 268 [(0, .ref b), (1, .ref (ad 0 0)), (2, .ref (ad 22 0)), (3, .ref (ad 22 1)), (4, .ref (ad 22 2)), (5, .ref (ad 22 3)), (6, .ref (ad 22 4)), (7, .ref (ad 22 5)), (8, .ref (ad 22 6)), (9, .int (nI i)), (10, .int (v)), (11, .int (nI a)), (12, .int (nI 1))] [] := by
        intro v a hn
        refine g_aload_n hB 1 dL_law_268 rfl rfl ?_
        refine g_iload hB 10 dL_law_269 rfl ?_
        refine g_iconst hB (nI 5) dL_law_271 rfl ?_
        refine g_ishr hB dL_law_272 ?_
        refine g_aload_n hB 2 dL_law_273 rfl rfl ?_
        refine g_aload hB 5 dL_law_274 rfl ?_
        refine g_aload hB 7 dL_law_276 rfl ?_
        refine g_callSI hB (c_L_proposes hl _ ng nm nc t pa rk mo i h hL0 hH ht hmo hn _) k_L_182 yk_L_proposes ⟨Nat.le_of_ble_eq_true rfl, Nat.le_of_ble_eq_true rfl⟩ rfl (Nat.le_of_ble_eq_true rfl) ⟨by show _ ≤ 600104; first | (dsimp only; omega) | omega, by show _ ≤ 7301314; first | (dsimp only; omega) | omega⟩ dL_law_278 ?_
        rintro _ _ ⟨T, rfl, rfl, hT⟩
        refine g_istore hB 12 dL_law_281 (by decide) ?_
        refine g_goto hB 462 dL_law_283 (by decide) ?_
        refine g_widen (k := 1000 + 2000 * i + 1500) (n := 10000 + 12000 * i + 9000) (by show _ ≤ _; first | (dsimp only; omega) | omega) (by show _ ≤ _; first | (dsimp only; omega) | omega) ?_
        exact g_sub [(0, .ref b), (1, .ref (ad 0 0)), (2, .ref (ad 22 0)), (3, .ref (ad 22 1)), (4, .ref (ad 22 2)), (5, .ref (ad 22 3)), (6, .ref (ad 22 4)), (7, .ref (ad 22 5)), (8, .ref (ad 22 6)), (9, .int (nI i)), (10, .int (v)), (12, .int (bI (true)))] rfl (so (T) v (hT))
      have pers3 : ∀ (v : Int32) (a : Nat), 0 < nc → G p l e room_1 s m args below meth c D ad A 14 Q (1000 + 2000 * i) (10000 + 12000 * i) CNT (SH ad ca (S)) 293 [(0, .ref b), (1, .ref (ad 0 0)), (2, .ref (ad 22 0)), (3, .ref (ad 22 1)), (4, .ref (ad 22 2)), (5, .ref (ad 22 3)), (6, .ref (ad 22 4)), (7, .ref (ad 22 5)), (8, .ref (ad 22 6)), (9, .int (nI i)), (10, .int (v)), (11, .int (nI a)), (12, .int (nI 1))] [] := by
        intro v a hn
        refine g_aload_n hB 1 dL_law_293 rfl rfl ?_
        refine g_iconst hB (nI 3) dL_law_294 rfl ?_
        refine g_iload hB 10 dL_law_295 rfl ?_
        refine g_iconst hB (nI 5) dL_law_297 rfl ?_
        refine g_ishr hB dL_law_298 ?_
        refine g_aload_n hB 2 dL_law_299 rfl rfl ?_
        refine g_aload_n hB 3 dL_law_300 rfl rfl ?_
        refine g_aload hB 4 dL_law_301 rfl ?_
        refine g_aload hB 5 dL_law_303 rfl ?_
        refine g_aload hB 6 dL_law_305 rfl ?_
        refine g_aload hB 7 dL_law_307 rfl ?_
        refine g_callSI hB (c_L_persons_3 hl _ ng nm nc t pa rk mo i h hL0 hH ht hmo h_i hn _) k_L_186 yk_L_persons ⟨Nat.le_of_ble_eq_true rfl, Nat.le_of_ble_eq_true rfl⟩ rfl (Nat.le_of_ble_eq_true rfl) ⟨by show _ ≤ 600104; first | (dsimp only; omega) | omega, by show _ ≤ 7301314; first | (dsimp only; omega) | omega⟩ dL_law_309 ?_
        rintro _ _ ⟨T, rfl, rfl, hT⟩
        refine g_istore hB 12 dL_law_312 (by decide) ?_
        refine g_goto hB 462 dL_law_314 (by decide) ?_
        refine g_widen (k := 1000 + 2000 * i + 1500) (n := 10000 + 12000 * i + 9000) (by show _ ≤ _; first | (dsimp only; omega) | omega) (by show _ ≤ _; first | (dsimp only; omega) | omega) ?_
        exact g_sub [(0, .ref b), (1, .ref (ad 0 0)), (2, .ref (ad 22 0)), (3, .ref (ad 22 1)), (4, .ref (ad 22 2)), (5, .ref (ad 22 3)), (6, .ref (ad 22 4)), (7, .ref (ad 22 5)), (8, .ref (ad 22 6)), (9, .int (nI i)), (10, .int (v)), (12, .int (bI (true)))] rfl (so (T) v (hT))
      have pers0 : ∀ (v : Int32), G p l e room_1 s m args below meth c D ad A 14 Q (1000 + 2000 * i) (10000 + 12000 * i) CNT (SH ad ca (S)) 324 [(0, .ref b), (1, .ref (ad 0 0)), (2, .ref (ad 22 0)), (3, .ref (ad 22 1)), (4, .ref (ad 22 2)), (5, .ref (ad 22 3)), (6, .ref (ad 22 4)), (7, .ref (ad 22 5)), (8, .ref (ad 22 6)), (9, .int (nI i)), (10, .int (v)), (11, .int (nI 18)), (12, .int (nI 1))] [] := by
        intro v
        refine g_aload_n hB 1 dL_law_324 rfl rfl ?_
        refine g_iload hB 11 dL_law_325 rfl ?_
        refine g_bipush hB (nI 18) dL_law_327 rfl ?_
        refine g_isub hB dL_law_329 ?_
        refine g_top (nI (0)) (by decide) ?_
        refine g_iload hB 10 dL_law_330 rfl ?_
        refine g_iconst hB (nI 5) dL_law_332 rfl ?_
        refine g_ishr hB dL_law_333 ?_
        refine g_aload_n hB 2 dL_law_334 rfl rfl ?_
        refine g_aload_n hB 3 dL_law_335 rfl rfl ?_
        refine g_aload hB 4 dL_law_336 rfl ?_
        refine g_aload hB 5 dL_law_338 rfl ?_
        refine g_aload hB 6 dL_law_340 rfl ?_
        refine g_aload hB 7 dL_law_342 rfl ?_
        refine g_callSI hB (c_L_persons_0 hl _ ng nm nc t pa rk mo i h hL0 hH ht hmo h_i _) k_L_186 yk_L_persons ⟨Nat.le_of_ble_eq_true rfl, Nat.le_of_ble_eq_true rfl⟩ rfl (Nat.le_of_ble_eq_true rfl) ⟨by show _ ≤ 600104; first | (dsimp only; omega) | omega, by show _ ≤ 7301314; first | (dsimp only; omega) | omega⟩ dL_law_344 ?_
        rintro _ _ ⟨T, rfl, rfl, hT⟩
        refine g_istore hB 12 dL_law_347 (by decide) ?_
        refine g_goto hB 462 dL_law_349 (by decide) ?_
        refine g_widen (k := 1000 + 2000 * i + 1500) (n := 10000 + 12000 * i + 9000) (by show _ ≤ _; first | (dsimp only; omega) | omega) (by show _ ≤ _; first | (dsimp only; omega) | omega) ?_
        exact g_sub [(0, .ref b), (1, .ref (ad 0 0)), (2, .ref (ad 22 0)), (3, .ref (ad 22 1)), (4, .ref (ad 22 2)), (5, .ref (ad 22 3)), (6, .ref (ad 22 4)), (7, .ref (ad 22 5)), (8, .ref (ad 22 6)), (9, .int (nI i)), (10, .int (v)), (12, .int (bI (true)))] rfl (so (T) v (hT))
      have pers1 : ∀ (v : Int32), G p l e room_1 s m args below meth c D ad A 14 Q (1000 + 2000 * i) (10000 + 12000 * i) CNT (SH ad ca (S)) 324 [(0, .ref b), (1, .ref (ad 0 0)), (2, .ref (ad 22 0)), (3, .ref (ad 22 1)), (4, .ref (ad 22 2)), (5, .ref (ad 22 3)), (6, .ref (ad 22 4)), (7, .ref (ad 22 5)), (8, .ref (ad 22 6)), (9, .int (nI i)), (10, .int (v)), (11, .int (nI 19)), (12, .int (nI 1))] [] := by
        intro v
        refine g_aload_n hB 1 dL_law_324 rfl rfl ?_
        refine g_iload hB 11 dL_law_325 rfl ?_
        refine g_bipush hB (nI 18) dL_law_327 rfl ?_
        refine g_isub hB dL_law_329 ?_
        refine g_top (nI (1)) (by decide) ?_
        refine g_iload hB 10 dL_law_330 rfl ?_
        refine g_iconst hB (nI 5) dL_law_332 rfl ?_
        refine g_ishr hB dL_law_333 ?_
        refine g_aload_n hB 2 dL_law_334 rfl rfl ?_
        refine g_aload_n hB 3 dL_law_335 rfl rfl ?_
        refine g_aload hB 4 dL_law_336 rfl ?_
        refine g_aload hB 5 dL_law_338 rfl ?_
        refine g_aload hB 6 dL_law_340 rfl ?_
        refine g_aload hB 7 dL_law_342 rfl ?_
        refine g_callSI hB (c_L_persons_1 hl _ ng nm nc t pa rk mo i h hL0 hH ht hmo _) k_L_186 yk_L_persons ⟨Nat.le_of_ble_eq_true rfl, Nat.le_of_ble_eq_true rfl⟩ rfl (Nat.le_of_ble_eq_true rfl) ⟨by show _ ≤ 600104; first | (dsimp only; omega) | omega, by show _ ≤ 7301314; first | (dsimp only; omega) | omega⟩ dL_law_344 ?_
        rintro _ _ ⟨T, rfl, rfl, hT⟩
        refine g_istore hB 12 dL_law_347 (by decide) ?_
        refine g_goto hB 462 dL_law_349 (by decide) ?_
        refine g_widen (k := 1000 + 2000 * i + 1500) (n := 10000 + 12000 * i + 9000) (by show _ ≤ _; first | (dsimp only; omega) | omega) (by show _ ≤ _; first | (dsimp only; omega) | omega) ?_
        exact g_sub [(0, .ref b), (1, .ref (ad 0 0)), (2, .ref (ad 22 0)), (3, .ref (ad 22 1)), (4, .ref (ad 22 2)), (5, .ref (ad 22 3)), (6, .ref (ad 22 4)), (7, .ref (ad 22 5)), (8, .ref (ad 22 6)), (9, .int (nI i)), (10, .int (v)), (12, .int (bI (true)))] rfl (so (T) v (hT))
      have pers2 : ∀ (v : Int32), 0 < nc → G p l e room_1 s m args below meth c D ad A 14 Q (1000 + 2000 * i) (10000 + 12000 * i) CNT (SH ad ca (S)) 324 [(0, .ref b), (1, .ref (ad 0 0)), (2, .ref (ad 22 0)), (3, .ref (ad 22 1)), (4, .ref (ad 22 2)), (5, .ref (ad 22 3)), (6, .ref (ad 22 4)), (7, .ref (ad 22 5)), (8, .ref (ad 22 6)), (9, .int (nI i)), (10, .int (v)), (11, .int (nI 20)), (12, .int (nI 1))] [] := by
        intro v hn
        refine g_aload_n hB 1 dL_law_324 rfl rfl ?_
        refine g_iload hB 11 dL_law_325 rfl ?_
        refine g_bipush hB (nI 18) dL_law_327 rfl ?_
        refine g_isub hB dL_law_329 ?_
        refine g_top (nI (2)) (by decide) ?_
        refine g_iload hB 10 dL_law_330 rfl ?_
        refine g_iconst hB (nI 5) dL_law_332 rfl ?_
        refine g_ishr hB dL_law_333 ?_
        refine g_aload_n hB 2 dL_law_334 rfl rfl ?_
        refine g_aload_n hB 3 dL_law_335 rfl rfl ?_
        refine g_aload hB 4 dL_law_336 rfl ?_
        refine g_aload hB 5 dL_law_338 rfl ?_
        refine g_aload hB 6 dL_law_340 rfl ?_
        refine g_aload hB 7 dL_law_342 rfl ?_
        refine g_callSI hB (c_L_persons_2 hl _ ng nm nc t pa rk mo i h hL0 hH ht hmo hn _) k_L_186 yk_L_persons ⟨Nat.le_of_ble_eq_true rfl, Nat.le_of_ble_eq_true rfl⟩ rfl (Nat.le_of_ble_eq_true rfl) ⟨by show _ ≤ 600104; first | (dsimp only; omega) | omega, by show _ ≤ 7301314; first | (dsimp only; omega) | omega⟩ dL_law_344 ?_
        rintro _ _ ⟨T, rfl, rfl, hT⟩
        refine g_istore hB 12 dL_law_347 (by decide) ?_
        refine g_goto hB 462 dL_law_349 (by decide) ?_
        refine g_widen (k := 1000 + 2000 * i + 1500) (n := 10000 + 12000 * i + 9000) (by show _ ≤ _; first | (dsimp only; omega) | omega) (by show _ ≤ _; first | (dsimp only; omega) | omega) ?_
        exact g_sub [(0, .ref b), (1, .ref (ad 0 0)), (2, .ref (ad 22 0)), (3, .ref (ad 22 1)), (4, .ref (ad 22 2)), (5, .ref (ad 22 3)), (6, .ref (ad 22 4)), (7, .ref (ad 22 5)), (8, .ref (ad 22 6)), (9, .int (nI i)), (10, .int (v)), (12, .int (bI (true)))] rfl (so (T) v (hT))
      have sets : ∀ (v : Int32) (a : Nat), G p l e room_1 s m args below meth c D ad A 14 Q (1000 + 2000 * i) (10000 + 12000 * i) CNT (SH ad ca (S)) 359 [(0, .ref b), (1, .ref (ad 0 0)), (2, .ref (ad 22 0)), (3, .ref (ad 22 1)), (4, .ref (ad 22 2)), (5, .ref (ad 22 3)), (6, .ref (ad 22 4)), (7, .ref (ad 22 5)), (8, .ref (ad 22 6)), (9, .int (nI i)), (10, .int (v)), (11, .int (nI a)), (12, .int (nI 1))] [] := by
        intro v a
        refine g_aload_n hB 1 dL_law_359 rfl rfl ?_
        refine g_iload hB 10 dL_law_360 rfl ?_
        refine g_iconst hB (nI 5) dL_law_362 rfl ?_
        refine g_ishr hB dL_law_363 ?_
        refine g_aload_n hB 2 dL_law_364 rfl rfl ?_
        refine g_aload hB 8 dL_law_365 rfl ?_
        refine g_callSI hB (c_L_sets hl _ ng nm nc t pa rk mo i h hL0 hH ht hmo _) k_L_190 yk_L_sets ⟨Nat.le_of_ble_eq_true rfl, Nat.le_of_ble_eq_true rfl⟩ rfl (Nat.le_of_ble_eq_true rfl) ⟨by show _ ≤ 600104; first | (dsimp only; omega) | omega, by show _ ≤ 7301314; first | (dsimp only; omega) | omega⟩ dL_law_367 ?_
        rintro _ _ ⟨T, rfl, rfl, hT⟩
        refine g_istore hB 12 dL_law_370 (by decide) ?_
        refine g_goto hB 462 dL_law_372 (by decide) ?_
        refine g_widen (k := 1000 + 2000 * i + 1500) (n := 10000 + 12000 * i + 9000) (by show _ ≤ _; first | (dsimp only; omega) | omega) (by show _ ≤ _; first | (dsimp only; omega) | omega) ?_
        exact g_sub [(0, .ref b), (1, .ref (ad 0 0)), (2, .ref (ad 22 0)), (3, .ref (ad 22 1)), (4, .ref (ad 22 2)), (5, .ref (ad 22 3)), (6, .ref (ad 22 4)), (7, .ref (ad 22 5)), (8, .ref (ad 22 6)), (9, .int (nI i)), (10, .int (v)), (12, .int (bI (true)))] rfl (so (T) v (hT))
      have mach0 : ∀ (v : Int32), 0 < nm → G p l e room_1 s m args below meth c D ad A 14 Q (1000 + 2000 * i) (10000 + 12000 * i) CNT (SH ad ca (S)) 382 [(0, .ref b), (1, .ref (ad 0 0)), (2, .ref (ad 22 0)), (3, .ref (ad 22 1)), (4, .ref (ad 22 2)), (5, .ref (ad 22 3)), (6, .ref (ad 22 4)), (7, .ref (ad 22 5)), (8, .ref (ad 22 6)), (9, .int (nI i)), (10, .int (v)), (11, .int (nI 23)), (12, .int (nI 1))] [] := by
        intro v hn
        refine g_aload_n hB 1 dL_law_382 rfl rfl ?_
        refine g_iload hB 11 dL_law_383 rfl ?_
        refine g_bipush hB (nI 23) dL_law_385 rfl ?_
        refine g_isub hB dL_law_387 ?_
        refine g_top (nI (0)) (by decide) ?_
        refine g_iload hB 10 dL_law_388 rfl ?_
        refine g_iconst hB (nI 5) dL_law_390 rfl ?_
        refine g_ishr hB dL_law_391 ?_
        refine g_aload_n hB 2 dL_law_392 rfl rfl ?_
        refine g_aload_n hB 3 dL_law_393 rfl rfl ?_
        refine g_aload hB 4 dL_law_394 rfl ?_
        refine g_aload hB 5 dL_law_396 rfl ?_
        refine g_callSI hB (c_L_machines_0 hl _ ng nm nc t pa rk mo i h hL0 hH ht hmo hn _) k_L_194 yk_L_machines ⟨Nat.le_of_ble_eq_true rfl, Nat.le_of_ble_eq_true rfl⟩ rfl (Nat.le_of_ble_eq_true rfl) ⟨by show _ ≤ 600104; first | (dsimp only; omega) | omega, by show _ ≤ 7301314; first | (dsimp only; omega) | omega⟩ dL_law_398 ?_
        rintro _ _ ⟨T, rfl, rfl, hT⟩
        refine g_istore hB 12 dL_law_401 (by decide) ?_
        refine g_goto hB 462 dL_law_403 (by decide) ?_
        refine g_widen (k := 1000 + 2000 * i + 1500) (n := 10000 + 12000 * i + 9000) (by show _ ≤ _; first | (dsimp only; omega) | omega) (by show _ ≤ _; first | (dsimp only; omega) | omega) ?_
        exact g_sub [(0, .ref b), (1, .ref (ad 0 0)), (2, .ref (ad 22 0)), (3, .ref (ad 22 1)), (4, .ref (ad 22 2)), (5, .ref (ad 22 3)), (6, .ref (ad 22 4)), (7, .ref (ad 22 5)), (8, .ref (ad 22 6)), (9, .int (nI i)), (10, .int (v)), (12, .int (bI (true)))] rfl (so (T) v (hT))
      have mach1 : ∀ (v : Int32), 0 < nm → G p l e room_1 s m args below meth c D ad A 14 Q (1000 + 2000 * i) (10000 + 12000 * i) CNT (SH ad ca (S)) 382 [(0, .ref b), (1, .ref (ad 0 0)), (2, .ref (ad 22 0)), (3, .ref (ad 22 1)), (4, .ref (ad 22 2)), (5, .ref (ad 22 3)), (6, .ref (ad 22 4)), (7, .ref (ad 22 5)), (8, .ref (ad 22 6)), (9, .int (nI i)), (10, .int (v)), (11, .int (nI 24)), (12, .int (nI 1))] [] := by
        intro v hn
        refine g_aload_n hB 1 dL_law_382 rfl rfl ?_
        refine g_iload hB 11 dL_law_383 rfl ?_
        refine g_bipush hB (nI 23) dL_law_385 rfl ?_
        refine g_isub hB dL_law_387 ?_
        refine g_top (nI (1)) (by decide) ?_
        refine g_iload hB 10 dL_law_388 rfl ?_
        refine g_iconst hB (nI 5) dL_law_390 rfl ?_
        refine g_ishr hB dL_law_391 ?_
        refine g_aload_n hB 2 dL_law_392 rfl rfl ?_
        refine g_aload_n hB 3 dL_law_393 rfl rfl ?_
        refine g_aload hB 4 dL_law_394 rfl ?_
        refine g_aload hB 5 dL_law_396 rfl ?_
        refine g_callSI hB (c_L_machines_1 hl _ ng nm nc t pa rk mo i h hL0 hH ht hmo hn _) k_L_194 yk_L_machines ⟨Nat.le_of_ble_eq_true rfl, Nat.le_of_ble_eq_true rfl⟩ rfl (Nat.le_of_ble_eq_true rfl) ⟨by show _ ≤ 600104; first | (dsimp only; omega) | omega, by show _ ≤ 7301314; first | (dsimp only; omega) | omega⟩ dL_law_398 ?_
        rintro _ _ ⟨T, rfl, rfl, hT⟩
        refine g_istore hB 12 dL_law_401 (by decide) ?_
        refine g_goto hB 462 dL_law_403 (by decide) ?_
        refine g_widen (k := 1000 + 2000 * i + 1500) (n := 10000 + 12000 * i + 9000) (by show _ ≤ _; first | (dsimp only; omega) | omega) (by show _ ≤ _; first | (dsimp only; omega) | omega) ?_
        exact g_sub [(0, .ref b), (1, .ref (ad 0 0)), (2, .ref (ad 22 0)), (3, .ref (ad 22 1)), (4, .ref (ad 22 2)), (5, .ref (ad 22 3)), (6, .ref (ad 22 4)), (7, .ref (ad 22 5)), (8, .ref (ad 22 6)), (9, .int (nI i)), (10, .int (v)), (12, .int (bI (true)))] rfl (so (T) v (hT))
      have pass : ∀ (v : Int32) (a d : Nat), 1 ≤ d → d ≤ 60 → G p l e room_1 s m args below meth c D ad A 14 Q (1000 + 2000 * i) (10000 + 12000 * i) CNT (SH ad ca (S)) 435 [(0, .ref b), (1, .ref (ad 0 0)), (2, .ref (ad 22 0)), (3, .ref (ad 22 1)), (4, .ref (ad 22 2)), (5, .ref (ad 22 3)), (6, .ref (ad 22 4)), (7, .ref (ad 22 5)), (8, .ref (ad 22 6)), (9, .int (nI i)), (10, .int (v)), (11, .int (nI a)), (12, .int (nI 1)), (13, .int (nI d))] [] := by
        intro v a d h1 h60
        have k18 : (cPassN nc nm pa d (S, 0)).1 18 = S 18 := cPass_hi (by decide) (by decide) d _
        have k17 : (cPassN nc nm pa d (S, 0)).1 17 = S 17 := cPass_hi (by decide) (by decide) d _
        have k22 : (cPassN nc nm pa d (S, 0)).1 22 = S 22 := cPass_hi (by decide) (by decide) d _
        have fin : ∀ A1 : Mem, (∀ k, k ≠ 22 → A1 k = (rDays (GB (cPassN nc nm pa d (S, 0)).1 (nI (cPassN nc nm pa d (S, 0)).2)) nc nm pa d).1 k) → LR A1 ng nm nc (t + d) pa rk → nI (cPassN nc nm pa d (S, 0)).2 = nI (rDays (GB (cPassN nc nm pa d (S, 0)).1 (nI (cPassN nc nm pa d (S, 0)).2)) nc nm pa d).2 ∧ TI A1 (i + 1) := fun A1 z1 z2 => TI_pa h hH ht hmo h_i h1 h60 z1 z2
        generalize hV : nI (cPassN nc nm pa d (S, 0)).2 = V at fin
        have hLB : LR (GB (cPassN nc nm pa d (S, 0)).1 V) ng nm nc t pa rk := LR_fr hL0 (GB_18 k18) (GB_22 k22)
        have hRB : RI (GB (cPassN nc nm pa d (S, 0)).1 V) ng nm nc t pa := GB_RI k17 k18 hR
        refine g_aload_n hB 1 dL_law_435 rfl rfl ?_
        refine g_iload hB 13 dL_law_436 rfl ?_
        refine g_callNVI hB (c_X5_pass hl _ ng nm nc t pa h.1 (by omega) _) k_L_198 rfl yk_X5_pass ⟨Nat.le_of_ble_eq_true rfl, Nat.le_of_ble_eq_true rfl⟩ ⟨(by decide), _, _, _, rfl, rfl, rfl⟩ rfl (Nat.le_of_ble_eq_true rfl) ⟨by show _ ≤ 600104; first | (dsimp only; omega) | omega, by show _ ≤ 7301314; first | (dsimp only; omega) | omega⟩ dL_law_438 (fun X hX => nx_of (paC_0 h1 (by omega)) hX) ?_
        rintro _ _ ⟨-, rfl, rfl⟩
        refine g_top ((V)) (by rw [ix_nI (by omega)]; exact hV) ?_
        refine s_eq (cPassN nc nm pa d (S, 0)).1 (by rw [ix_nI (by omega)]) ?_
        refine g_gh (GB (cPassN nc nm pa d (S, 0)).1 V) GB_gh ?_
        refine g_iload hB 13 dL_law_441 rfl ?_
        refine g_aload_n hB 2 dL_law_443 rfl rfl ?_
        refine g_aload_n hB 3 dL_law_444 rfl rfl ?_
        refine g_aload hB 4 dL_law_445 rfl ?_
        refine g_aload hB 5 dL_law_447 rfl ?_
        refine g_callSI hB (c_L_pass _ ng nm nc t pa rk hLB hRB d (by omega) (by omega)) k_L_201 yk_L_pass ⟨Nat.le_of_ble_eq_true rfl, Nat.le_of_ble_eq_true rfl⟩ rfl (Nat.le_of_ble_eq_true rfl) ⟨by show _ ≤ 600104; first | (dsimp only; omega) | omega, by show _ ≤ 7301314; first | (dsimp only; omega) | omega⟩ dL_law_449 ?_
        rintro _ _ ⟨A1, rfl, rfl, hA1, hLA1⟩
        refine g_top ((V)) ((fin A1 hA1 hLA1).1.symm) ?_
        refine g_icmp_ne hB 459 dL_law_452 (by decide) (fun c_452 => ?_) (fun c_452 => ?_)
        · exact absurd rfl c_452
        · refine g_iconst hB (nI 1) dL_law_455 rfl ?_
          refine g_goto hB 460 dL_law_456 (by decide) ?_
          refine g_istore hB 12 dL_law_460 (by decide) ?_
          refine g_widen (k := 1000 + 2000 * i + 1500) (n := 10000 + 12000 * i + 9000) (by show _ ≤ _; first | (dsimp only; omega) | omega) (by show _ ≤ _; first | (dsimp only; omega) | omega) ?_
          exact g_sub [(0, .ref b), (1, .ref (ad 0 0)), (2, .ref (ad 22 0)), (3, .ref (ad 22 1)), (4, .ref (ad 22 2)), (5, .ref (ad 22 3)), (6, .ref (ad 22 4)), (7, .ref (ad 22 5)), (8, .ref (ad 22 6)), (9, .int (nI i)), (10, .int (v)), (12, .int (bI (true)))] rfl (so (A1) v ((fin A1 hA1 hLA1).2))
      have late : ∀ (v : Int32) (a : Nat), a < 30 → 18 ≤ a → 0 < nc → 0 < nm → G p l e room_1 s m args below meth c D ad A 14 Q (1000 + 2000 * i) (10000 + 12000 * i) CNT (SH ad ca (S)) 317 [(0, .ref b), (1, .ref (ad 0 0)), (2, .ref (ad 22 0)), (3, .ref (ad 22 1)), (4, .ref (ad 22 2)), (5, .ref (ad 22 3)), (6, .ref (ad 22 4)), (7, .ref (ad 22 5)), (8, .ref (ad 22 6)), (9, .int (nI i)), (10, .int (v)), (11, .int (nI a)), (12, .int (nI 1))] [] := by
        intro v a ha h18 hn hm
        refine g_iload hB 11 dL_law_317 rfl ?_
        refine g_bipush hB (nI 21) dL_law_319 rfl ?_
        refine n_icmp_ge hB a 21 352 dL_law_321 (by decide) (by omega) (by omega) (fun c_321 => ?_) (fun c_321 => ?_)
        · refine g_iload hB 11 dL_law_352 rfl ?_
          refine g_bipush hB (nI 23) dL_law_354 rfl ?_
          refine n_icmp_ge hB a 23 375 dL_law_356 (by decide) (by omega) (by omega) (fun c_356 => ?_) (fun c_356 => ?_)
          · refine g_iload hB 11 dL_law_375 rfl ?_
            refine g_bipush hB (nI 25) dL_law_377 rfl ?_
            refine n_icmp_ge hB a 25 406 dL_law_379 (by decide) (by omega) (by omega) (fun c_379 => ?_) (fun c_379 => ?_)
            · refine g_iconst hB (nI 1) dL_law_406 rfl ?_
              refine g_iload hB 10 dL_law_407 rfl ?_
              refine g_iconst hB (nI 5) dL_law_409 rfl ?_
              refine g_ishr hB dL_law_410 ?_
              refine g_iload hB 10 dL_law_411 rfl ?_
              refine g_bipush hB (nI 12) dL_law_413 rfl ?_
              refine g_ishr hB dL_law_415 ?_
              refine g_iconst hB (nI 4) dL_law_416 rfl ?_
              refine g_callSI hB (c_L_low _ _ _ (by omega) (by omega)) k_L_125 yk_L_low ⟨Nat.le_of_ble_eq_true rfl, Nat.le_of_ble_eq_true rfl⟩ rfl (Nat.le_of_ble_eq_true rfl) ⟨by show _ ≤ 600104; first | (dsimp only; omega) | omega, by show _ ≤ 7301314; first | (dsimp only; omega) | omega⟩ dL_law_417 ?_
              rintro _ _ ⟨z, hz, rfl, rfl⟩
              refine g_if_ne hB 428 dL_law_420 (by decide) (fun c_420 => ?_) (fun c_420 => ?_)
              · refine g_iconst hB (nI 3) dL_law_428 rfl ?_
                refine g_callSI hB (c_L_low _ _ _ (by omega) (by omega)) k_L_125 yk_L_low ⟨Nat.le_of_ble_eq_true rfl, Nat.le_of_ble_eq_true rfl⟩ rfl (Nat.le_of_ble_eq_true rfl) ⟨by show _ ≤ 600104; first | (dsimp only; omega) | omega, by show _ ≤ 7301314; first | (dsimp only; omega) | omega⟩ dL_law_429 ?_
                rintro _ _ ⟨y, hy, rfl, rfl⟩
                refine g_iadd hB dL_law_432 ?_
                refine g_top (nI (1 + y)) (nI_add _ _) ?_
                refine g_istore hB 13 dL_law_433 (by decide) ?_
                refine g_widen (k := 1000 + 2000 * i) (n := 10000 + 12000 * i) (by show _ ≤ _; first | (dsimp only; omega) | omega) (by show _ ≤ _; first | (dsimp only; omega) | omega) ?_
                exact g_sub _ rfl (pass v a (1 + y) (by omega) (by omega))
              · refine g_bipush hB (nI 30) dL_law_423 rfl ?_
                refine g_goto hB 429 dL_law_425 (by decide) ?_
                refine g_callSI hB (c_L_low _ _ _ (by omega) (by omega)) k_L_125 yk_L_low ⟨Nat.le_of_ble_eq_true rfl, Nat.le_of_ble_eq_true rfl⟩ rfl (Nat.le_of_ble_eq_true rfl) ⟨by show _ ≤ 600104; first | (dsimp only; omega) | omega, by show _ ≤ 7301314; first | (dsimp only; omega) | omega⟩ dL_law_429 ?_
                rintro _ _ ⟨y, hy, rfl, rfl⟩
                refine g_iadd hB dL_law_432 ?_
                refine g_top (nI (1 + y)) (nI_add _ _) ?_
                refine g_istore hB 13 dL_law_433 (by decide) ?_
                refine g_widen (k := 1000 + 2000 * i) (n := 10000 + 12000 * i) (by show _ ≤ _; first | (dsimp only; omega) | omega) (by show _ ≤ _; first | (dsimp only; omega) | omega) ?_
                exact g_sub _ rfl (pass v a (1 + y) (by omega) (by omega))
            · rcases (show a = 23 ∨ a = 24 by omega) with rfl | rfl
              · exact g_sub _ rfl (mach0 v hm)
              · exact g_sub _ rfl (mach1 v hm)
          · exact g_sub _ rfl (sets v a)
        · refine g_widen (k := 1000 + 2000 * i) (n := 10000 + 12000 * i) (by show _ ≤ _; first | (dsimp only; omega) | omega) (by show _ ≤ _; first | (dsimp only; omega) | omega) ?_
          rcases (show a = 18 ∨ a = 19 ∨ a = 20 by omega) with rfl | rfl | rfl
          · exact g_sub _ rfl (pers0 v)
          · exact g_sub _ rfl (pers1 v)
          · exact g_sub _ rfl (pers2 v hn)
      have mid : ∀ (v : Int32) (a : Nat), a < 30 → 0 < nm → G p l e room_1 s m args below meth c D ad A 14 Q (1000 + 2000 * i) (10000 + 12000 * i) CNT (SH ad ca (S)) 184 [(0, .ref b), (1, .ref (ad 0 0)), (2, .ref (ad 22 0)), (3, .ref (ad 22 1)), (4, .ref (ad 22 2)), (5, .ref (ad 22 3)), (6, .ref (ad 22 4)), (7, .ref (ad 22 5)), (8, .ref (ad 22 6)), (9, .int (nI i)), (10, .int (v)), (11, .int (nI a)), (12, .int (nI 1))] [] := by
        intro v a ha hm
        refine g_iload hB 11 dL_law_184 rfl ?_
        refine g_iconst hB (nI 3) dL_law_186 rfl ?_
        refine n_icmp_ge hB a 3 247 dL_law_187 (by decide) (by omega) (by omega) (fun c_187 => ?_) (fun c_187 => ?_)
        · refine g_iload hB 11 dL_law_247 rfl ?_
          refine g_bipush hB (nI 9) dL_law_249 rfl ?_
          refine n_icmp_ge hB a 9 262 dL_law_251 (by decide) (by omega) (by omega) (fun c_251 => ?_) (fun c_251 => ?_)
          · refine g_aload_n hB 2 dL_law_262 rfl rfl ?_
            refine g_iconst hB (nI 4) dL_law_263 rfl ?_
            refine g_iald hB 22 0 4 (n := 12) (by decide) rfl (by first | assumption | omega) (Nat.le_of_ble_eq_true rfl) dL_law_264 ?_
            refine g_top (nI (nc)) (q4) ?_
            refine g_if_ne hB 286 dL_law_265 (by decide) (fun c_265 => ?_) (fun c_265 => ?_)
            · have hn0 : 0 < nc := by
                rcases Nat.eq_zero_or_pos nc with z | z
                · rw [z] at c_265; exact absurd rfl c_265
                · exact z
              refine g_iload hB 11 dL_law_286 rfl ?_
              refine g_bipush hB (nI 18) dL_law_288 rfl ?_
              refine n_icmp_ge hB a 18 317 dL_law_290 (by decide) (by omega) (by omega) (fun c_290 => ?_) (fun c_290 => ?_)
              · exact g_sub _ rfl (late v a ha (by omega) hn0 hm)
              · exact g_sub _ rfl (pers3 v a hn0)
            · have hn0 : nc = 0 := by
                rcases Nat.eq_zero_or_pos nc with z | z
                · exact z
                · exact absurd c_265 (nI_no0 z (by omega))
              exact g_sub _ rfl (props v a (by omega))
          · refine g_aload_n hB 2 dL_law_254 rfl rfl ?_
            refine g_iconst hB (nI 4) dL_law_255 rfl ?_
            refine g_iald hB 22 0 4 (n := 12) (by decide) rfl (by first | assumption | omega) (Nat.le_of_ble_eq_true rfl) dL_law_256 ?_
            refine g_top (nI (nc)) (q4) ?_
            refine g_bipush hB (nI 12) dL_law_257 rfl ?_
            refine n_icmp_lt hB nc 12 268 dL_law_259 (by decide) (by omega) (by omega) (fun c_259 => ?_) (fun c_259 => ?_)
            · exact g_sub _ rfl (props v a (by omega))
            · refine g_aload_n hB 2 dL_law_262 rfl rfl ?_
              refine g_iconst hB (nI 4) dL_law_263 rfl ?_
              refine g_iald hB 22 0 4 (n := 12) (by decide) rfl (by first | assumption | omega) (Nat.le_of_ble_eq_true rfl) dL_law_264 ?_
              refine g_top (nI (nc)) (q4) ?_
              refine g_if_ne hB 286 dL_law_265 (by decide) (fun c_265 => ?_) (fun c_265 => ?_)
              · have hn0 : 0 < nc := by
                  rcases Nat.eq_zero_or_pos nc with z | z
                  · rw [z] at c_265; exact absurd rfl c_265
                  · exact z
                refine g_iload hB 11 dL_law_286 rfl ?_
                refine g_bipush hB (nI 18) dL_law_288 rfl ?_
                refine n_icmp_ge hB a 18 317 dL_law_290 (by decide) (by omega) (by omega) (fun c_290 => ?_) (fun c_290 => ?_)
                · exact g_sub _ rfl (late v a ha (by omega) hn0 hm)
                · exact g_sub _ rfl (pers3 v a hn0)
              · have hn0 : nc = 0 := by
                  rcases Nat.eq_zero_or_pos nc with z | z
                  · exact z
                  · exact absurd c_265 (nI_no0 z (by omega))
                exact g_sub _ rfl (props v a (by omega))
        · refine g_aload_n hB 2 dL_law_190 rfl rfl ?_
          refine g_iconst hB (nI 2) dL_law_191 rfl ?_
          refine g_iald hB 22 0 2 (n := 12) (by decide) rfl (by first | assumption | omega) (Nat.le_of_ble_eq_true rfl) dL_law_192 ?_
          refine g_top (nI (ng)) (q2) ?_
          refine g_iconst hB (nI 4) dL_law_193 rfl ?_
          refine n_icmp_ge hB ng 4 247 dL_law_194 (by decide) (by omega) (by omega) (fun c_194 => ?_) (fun c_194 => ?_)
          · refine g_iload hB 11 dL_law_247 rfl ?_
            refine g_bipush hB (nI 9) dL_law_249 rfl ?_
            refine n_icmp_ge hB a 9 262 dL_law_251 (by decide) (by omega) (by omega) (fun c_251 => ?_) (fun c_251 => ?_)
            · refine g_aload_n hB 2 dL_law_262 rfl rfl ?_
              refine g_iconst hB (nI 4) dL_law_263 rfl ?_
              refine g_iald hB 22 0 4 (n := 12) (by decide) rfl (by first | assumption | omega) (Nat.le_of_ble_eq_true rfl) dL_law_264 ?_
              refine g_top (nI (nc)) (q4) ?_
              refine g_if_ne hB 286 dL_law_265 (by decide) (fun c_265 => ?_) (fun c_265 => ?_)
              · have hn0 : 0 < nc := by
                  rcases Nat.eq_zero_or_pos nc with z | z
                  · rw [z] at c_265; exact absurd rfl c_265
                  · exact z
                refine g_iload hB 11 dL_law_286 rfl ?_
                refine g_bipush hB (nI 18) dL_law_288 rfl ?_
                refine n_icmp_ge hB a 18 317 dL_law_290 (by decide) (by omega) (by omega) (fun c_290 => ?_) (fun c_290 => ?_)
                · exact g_sub _ rfl (late v a ha (by omega) hn0 hm)
                · exact g_sub _ rfl (pers3 v a hn0)
              · have hn0 : nc = 0 := by
                  rcases Nat.eq_zero_or_pos nc with z | z
                  · exact z
                  · exact absurd c_265 (nI_no0 z (by omega))
                exact g_sub _ rfl (props v a (by omega))
            · refine g_aload_n hB 2 dL_law_254 rfl rfl ?_
              refine g_iconst hB (nI 4) dL_law_255 rfl ?_
              refine g_iald hB 22 0 4 (n := 12) (by decide) rfl (by first | assumption | omega) (Nat.le_of_ble_eq_true rfl) dL_law_256 ?_
              refine g_top (nI (nc)) (q4) ?_
              refine g_bipush hB (nI 12) dL_law_257 rfl ?_
              refine n_icmp_lt hB nc 12 268 dL_law_259 (by decide) (by omega) (by omega) (fun c_259 => ?_) (fun c_259 => ?_)
              · exact g_sub _ rfl (props v a (by omega))
              · refine g_aload_n hB 2 dL_law_262 rfl rfl ?_
                refine g_iconst hB (nI 4) dL_law_263 rfl ?_
                refine g_iald hB 22 0 4 (n := 12) (by decide) rfl (by first | assumption | omega) (Nat.le_of_ble_eq_true rfl) dL_law_264 ?_
                refine g_top (nI (nc)) (q4) ?_
                refine g_if_ne hB 286 dL_law_265 (by decide) (fun c_265 => ?_) (fun c_265 => ?_)
                · have hn0 : 0 < nc := by
                    rcases Nat.eq_zero_or_pos nc with z | z
                    · rw [z] at c_265; exact absurd rfl c_265
                    · exact z
                  refine g_iload hB 11 dL_law_286 rfl ?_
                  refine g_bipush hB (nI 18) dL_law_288 rfl ?_
                  refine n_icmp_ge hB a 18 317 dL_law_290 (by decide) (by omega) (by omega) (fun c_290 => ?_) (fun c_290 => ?_)
                  · exact g_sub _ rfl (late v a ha (by omega) hn0 hm)
                  · exact g_sub _ rfl (pers3 v a hn0)
                · have hn0 : nc = 0 := by
                    rcases Nat.eq_zero_or_pos nc with z | z
                    · exact z
                    · exact absurd c_265 (nI_no0 z (by omega))
                  exact g_sub _ rfl (props v a (by omega))
          · exact g_sub _ rfl (ag v a (by omega))
      refine g_iload hB 9 dL_law_87 rfl ?_
      refine g_bipush hB (nI 90) dL_law_89 rfl ?_
      refine n_icmp_ge hB i 90 496 dL_law_91 (by decide) (by omega) (by omega) (fun c_91 => ?_) (fun c_91 => ?_)
      · exact absurd c_91 (by omega)
      · refine g_aload_n hB 0 dL_law_94 rfl rfl ?_
        refine g_iload hB 9 dL_law_95 rfl ?_
        refine g_cell hB hX hbl hbA hL260 h_i ⟨Nat.le_of_ble_eq_true rfl, Nat.le_of_ble_eq_true rfl⟩ (Nat.le_of_ble_eq_true rfl) ⟨by show _ ≤ 600104; first | (dsimp only; omega) | omega, by show _ ≤ 7301314; first | (dsimp only; omega) | omega⟩ dL_law_97 (fun v => ?_)
        refine g_istore hB 10 dL_law_100 (by decide) ?_
        refine g_iload hB 10 dL_law_102 rfl ?_
        refine g_bipush hB (nI 30) dL_law_104 rfl ?_
        refine g_callSI hB (c_L_low _ _ _ (by omega) (by omega)) k_L_125 yk_L_low ⟨Nat.le_of_ble_eq_true rfl, Nat.le_of_ble_eq_true rfl⟩ rfl (Nat.le_of_ble_eq_true rfl) ⟨by show _ ≤ 600104; first | (dsimp only; omega) | omega, by show _ ≤ 7301314; first | (dsimp only; omega) | omega⟩ dL_law_106 ?_
        rintro _ _ ⟨a, ha, rfl, rfl⟩
        refine g_istore hB 11 dL_law_109 (by decide) ?_
        refine g_iconst hB (nI 1) dL_law_111 rfl ?_
        refine g_istore hB 12 dL_law_112 (by decide) ?_
        refine g_aload_n hB 2 dL_law_114 rfl rfl ?_
        refine g_iconst hB (nI 3) dL_law_115 rfl ?_
        refine g_iald hB 22 0 3 (n := 12) (by decide) rfl (by first | assumption | omega) (Nat.le_of_ble_eq_true rfl) dL_law_116 ?_
        refine g_top (nI (nm)) (q3) ?_
        refine g_if_eq hB 132 dL_law_117 (by decide) (fun c_117 => ?_) (fun c_117 => ?_)
        · have hm0 : nm = 0 := by
            rcases Nat.eq_zero_or_pos nm with z | z
            · exact z
            · exact absurd c_117 (nI_no0 z (by omega))
          refine g_widen (k := 1000 + 2000 * i) (n := 10000 + 12000 * i) (by show _ ≤ _; first | (dsimp only; omega) | omega) (by show _ ≤ _; first | (dsimp only; omega) | omega) ?_
          exact g_sub _ rfl (am v a (by omega))
        · have hm0 : 0 < nm := by
            rcases Nat.eq_zero_or_pos nm with z | z
            · rw [z] at c_117; exact absurd rfl c_117
            · exact z
          refine g_iload hB 11 dL_law_120 rfl ?_
          refine g_if_ne hB 184 dL_law_122 (by decide) (fun c_122 => ?_) (fun c_122 => ?_)
          · refine g_widen (k := 1000 + 2000 * i) (n := 10000 + 12000 * i) (by show _ ≤ _; first | (dsimp only; omega) | omega) (by show _ ≤ _; first | (dsimp only; omega) | omega) ?_
            exact g_sub _ rfl (mid v a ha hm0)
          · refine g_aload_n hB 2 dL_law_125 rfl rfl ?_
            refine g_iconst hB (nI 3) dL_law_126 rfl ?_
            refine g_iald hB 22 0 3 (n := 12) (by decide) rfl (by first | assumption | omega) (Nat.le_of_ble_eq_true rfl) dL_law_127 ?_
            refine g_top (nI (nm)) (q3) ?_
            refine g_iconst hB (nI 3) dL_law_128 rfl ?_
            refine n_icmp_ge hB nm 3 184 dL_law_129 (by decide) (by omega) (by omega) (fun c_129 => ?_) (fun c_129 => ?_)
            · refine g_widen (k := 1000 + 2000 * i) (n := 10000 + 12000 * i) (by show _ ≤ _; first | (dsimp only; omega) | omega) (by show _ ≤ _; first | (dsimp only; omega) | omega) ?_
              exact g_sub _ rfl (mid v a ha hm0)
            · refine g_widen (k := 1000 + 2000 * i) (n := 10000 + 12000 * i) (by show _ ≤ _; first | (dsimp only; omega) | omega) (by show _ ≤ _; first | (dsimp only; omega) | omega) ?_
              exact g_sub _ rfl (am v a (by omega))
    · have hi90 : i = 90 := by omega
      subst hi90
      refine g_iload hB 9 dL_law_87 rfl ?_
      refine g_bipush hB (nI 90) dL_law_89 rfl ?_
      refine n_icmp_ge hB 90 90 496 dL_law_91 (by decide) (by decide) (by decide) (fun _ => ?_) (fun z => absurd z (by decide))
      refine g_iconst hB (nI 1) dL_law_496 rfl ?_
      exact hexit _ _ _ _ (by omega) (by omega)
end L14
