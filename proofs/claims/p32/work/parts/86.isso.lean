/-! the law: all is what it should be -/
section L8
variable {l : Launch} {D : va_G} {ad : Nat → Nat → Nat} {ca : Nat → ClassId}
theorem has_20 {S : Mem} {ng nm nc t pa rk m c : Nat} (hL : LR S ng nm nc t pa rk) (hm : m < 3) (hc : c < nc) : hasC S m c = anyB (fun i => decide (S 22 2 (20 * m + i) = nI (c + 1))) 20 := by
  have hnc := hL.1.2.2.2.2.1
  unfold hasC
  rw [Bool.eq_iff_iff, anyB_t, anyB_t]
  constructor
  · rintro ⟨j, hj, h⟩
    have hq : 66 * m + j = 6 * (11 * m + j / 6) + j % 6 := by omega
    have h := of_decide_eq_true h
    rw [hq] at h
    have hne : S 18 5 (6 * (11 * m + j / 6) + j % 6) ≠ -1 := fun z => m1_ne (show c < 2 ^ 31 by omega) (h.symm.trans z)
    have hz := hL.2.2.2.2.2.1 m (by omega) (j / 6) (by omega) (j % 6) (by omega)
    have hk : j % 6 < 4 := by
      rcases Nat.lt_or_ge (j % 6) 4 with y | y
      · exact y
      · exact absurd (hz (Or.inr (Or.inr y))) hne
    have hs : j / 6 < 4 ∨ j / 6 = 10 := by
      rcases Nat.lt_or_ge (j / 6) 4 with y | y
      · exact Or.inl y
      · rcases Nat.lt_or_ge 9 (j / 6) with w | w
        · exact Or.inr (by omega)
        · exact absurd (hz (Or.inr (Or.inl ⟨y, w⟩))) hne
    obtain ⟨e1, e2⟩ := s10_s4 hs
    refine ⟨4 * s4 (j / 6) + j % 6, by omega, decide_eq_true ?_⟩
    have hT := hL.2.2.2.2.1 m hm (s4 (j / 6)) e2 (j % 6) hk
    rw [e1] at hT
    rcases hT with ⟨a, b⟩ | ⟨d, d1, d2, d3⟩
    · exact absurd a hne
    · rw [d2] at h
      have e : d = c := (nI_eq (by omega) (by omega)).mp h
      subst e
      rw [← Nat.add_assoc]
      exact d3
  · rintro ⟨j, hj, h⟩
    have h := of_decide_eq_true h
    have hT := hL.2.2.2.2.1 m hm (j / 4) (by omega) (j % 4) (by omega)
    rw [show 20 * m + 4 * (j / 4) + j % 4 = 20 * m + j by omega] at hT
    rcases hT with ⟨a, b⟩ | ⟨d, d1, d2, d3⟩
    · rw [b] at h
      have := (nI_eq (by omega) (by omega)).mp h
      omega
    · rw [d3] at h
      have e := (nI_eq (by omega) (by omega)).mp h
      have e : d = c := by omega
      subst e
      have h10 : s10 (j / 4) ≤ 10 := by unfold s10; split <;> omega
      refine ⟨6 * s10 (j / 4) + j % 4, by omega, decide_eq_true ?_⟩
      rw [show 66 * m + (6 * s10 (j / 4) + j % 4) = 6 * (11 * m + s10 (j / 4)) + j % 4 by omega]
      exact d2
theorem ad_b {a : Nat} {f : Nat → Bool} {b : Bool} (h : f a = b) : nI (cntB f a) + bI b = nI (cntB f (a + 1)) := by
  rw [cntB, h]
  cases b
  · exact nI_add _ 0
  · exact nI_add _ 1

theorem c_L_isSo (hl : l.stackTraces = false) (S : Mem) (ng nm nc t pa rk mo : Nat) (h : INV S ng nm nc t pa rk mo) (hL : LR S ng nm nc t pa rk) (v : Int32) : CI l yL_isSo cL_isSo 14 (some .boolean) { frames := 9, cells := 400, slots := 2400, locals := 173 } D ad CNT ca SR (SH ad ca S) [.ref (ad 0 0), .int (v), .ref (ad 22 0), .ref (ad 22 1), .ref (ad 22 2), .ref (ad 22 3), .ref (ad 22 4), .ref (ad 22 6)] (fun r E' => ∃ T, r = bI true ∧ E' = SH ad ca T ∧ FRS S T) := by
  have hR := h.2.1
  have hL0 := hL
  obtain ⟨⟨⟨q0, q1, q2, q3, q4, q5⟩, hng1, hng4, hnm3, hnc12, ht20, hrk20, hpa12⟩, hD, hG, hN, hT, hZ, hC, hCz, hA, hGa, hE⟩ := hL
  have hb := qv_bd h
  have eday : S 0 0 0 = nI t := h.1.2.2.2.1.1
  have ecnt : S 0 0 9 = nI nc := h.1.2.2.1.1
  refine CI.of _ RL (by decide +kernel) rfl (Nat.le_of_ble_eq_true rfl) ?_
  intro p9 e9 s9 m9 a9 b9 me9 c9 A9 hB hr hnm9
  -- what a machine is told, and a machine
  have fin : ∀ (j k p : Nat) (vv : Int32), j < ng + nm → k < 4 → p < 7 → (j < ng → pl7 p = j) → (ng ≤ j → pl7 p = 100 + j - ng) → vv = wh S (mTopI S nc (nI (pl7 p)) (nI k)) → G p9 l e9 { frames := 9, cells := 400, slots := 2400, locals := 173 } s9 m9 a9 b9 me9 c9 D ad A9 14 (MQ b9 (va_Qi (fun r E' => ∃ T, r = bI true ∧ E' = SH ad ca T ∧ FRS S T) (fun E' t => WW D ad CNT A9 E' t.heap) A9) a9 s9 400 2400 A9) (100) (600) CNT (SH ad ca (S)) 284 [(0, .ref (ad 0 0)), (1, .int (v)), (2, .ref (ad 22 0)), (3, .ref (ad 22 1)), (4, .ref (ad 22 2)), (5, .ref (ad 22 3)), (6, .ref (ad 22 4)), (7, .ref (ad 22 6)), (8, .int (nI 1)), (9, .int (nI j)), (10, .int (nI k)), (12, .int (vv))] [] := by
    intro j k p vv hj hk hp h1 h2 hv
    refine g_iload hB 8 dL_isSo_284 rfl ?_
    refine g_if_eq hB 356 dL_isSo_286 (by decide) (fun z => absurd z (by decide)) (fun _ => ?_)
    refine g_aload_n hB 0 dL_isSo_289 rfl rfl ?_
    refine g_iload hB 9 dL_isSo_290 rfl ?_
    refine g_aload_n hB 2 dL_isSo_292 rfl rfl ?_
    refine g_iconst hB (nI 2) dL_isSo_293 rfl ?_
    refine g_iald hB 22 0 2 (n := 12) (by decide) rfl (by first | assumption | omega) (Nat.le_of_ble_eq_true rfl) dL_isSo_294 ?_
    refine g_top (nI (ng)) (q2) ?_
    refine n_icmp_ge hB j ng 303 dL_isSo_295 (by decide) (by omega) (by omega) (fun c_295 => ?_) (fun c_295 => ?_)
    · have ex : pl7 p = 100 + j - ng := h2 (by omega)
      have hx : plB (nI (100 + j - ng)) ng nm = true := by unfold plB; rw [toInt_nI (by omega), decide_eq_true (p := (100 : Int) ≤ ((100 + j - ng : Nat) : Int) ∧ ((100 + j - ng : Nat) : Int) < 100 + (nm : Int)) (by omega), Bool.or_true]
      have hto := qv_told h hx (show k < 6 by omega)
      have htv := hto.2.trans (show wh S (mTopI S nc (nI (100 + j - ng)) (nI k)) = vv by rw [hv, ex])
      refine g_bipush hB (nI 100) dL_isSo_303 rfl ?_
      refine g_iload hB 9 dL_isSo_305 rfl ?_
      refine g_iadd hB dL_isSo_307 ?_
      refine g_top (nI (100 + j)) (nI_add _ _) ?_
      refine g_aload_n hB 2 dL_isSo_308 rfl rfl ?_
      refine g_iconst hB (nI 2) dL_isSo_309 rfl ?_
      refine g_iald hB 22 0 2 (n := 12) (by decide) rfl (by first | assumption | omega) (Nat.le_of_ble_eq_true rfl) dL_isSo_310 ?_
      refine g_top (nI (ng)) (q2) ?_
      refine g_isub hB dL_isSo_311 ?_
      refine g_top (nI (100 + j - ng)) (pk_sub (by omega)) ?_
      refine g_iload hB 10 dL_isSo_312 rfl ?_
      refine g_callNVI hB (c_X5_told hl _ ng nm nc t pa h.1 _ _) k_L_128 rfl yk_X5_told ⟨Nat.le_of_ble_eq_true rfl, Nat.le_of_ble_eq_true rfl⟩ ⟨(by decide), _, _, _, rfl, rfl, rfl⟩ rfl (Nat.le_of_ble_eq_true rfl) ⟨Nat.le_of_ble_eq_true rfl, Nat.le_of_ble_eq_true rfl⟩ dL_isSo_314 (fun X hX => nx_of (hto.1) hX) ?_
      rintro _ _ ⟨-, rfl, rfl⟩
      refine g_top ((vv)) (htv) ?_
      refine g_iload hB 12 dL_isSo_317 rfl ?_
      refine g_icmp_ne hB 356 dL_isSo_319 (by decide) (fun c_319 => ?_) (fun c_319 => ?_)
      · exact absurd rfl c_319
      · refine g_aload_n hB 2 dL_isSo_322 rfl rfl ?_
        refine g_iconst hB (nI 3) dL_isSo_323 rfl ?_
        refine g_iald hB 22 0 3 (n := 12) (by decide) rfl (by first | assumption | omega) (Nat.le_of_ble_eq_true rfl) dL_isSo_324 ?_
        refine g_top (nI (nm)) (q3) ?_
        refine g_if_eq hB 352 dL_isSo_325 (by decide) (fun c_325 => ?_) (fun c_325 => ?_)
        · refine g_iconst hB (nI 1) dL_isSo_352 rfl ?_
          refine g_goto hB 357 dL_isSo_353 (by decide) ?_
          exact g_iret hB hr rfl (Nat.le_of_ble_eq_true rfl) (Nat.le_of_ble_eq_true rfl) (by first | exact ⟨S, rfl, rfl, FRS_r⟩ | exact ⟨T, rfl, rfl, hT⟩) dL_isSo_357
        · have hnm0 : 0 < nm := by
            rcases Nat.eq_zero_or_pos nm with z | z
            · rw [z] at c_325; exact absurd rfl c_325
            · exact z
          refine g_aload_n hB 0 dL_isSo_328 rfl rfl ?_
          refine g_iload_n hB 1 dL_isSo_329 rfl rfl ?_
          refine g_iconst hB (nI 5) dL_isSo_330 rfl ?_
          refine g_ishr hB dL_isSo_331 ?_
          refine g_aload_n hB 2 dL_isSo_332 rfl rfl ?_
          refine g_iconst hB (nI 3) dL_isSo_333 rfl ?_
          refine g_iald hB 22 0 3 (n := 12) (by decide) rfl (by first | assumption | omega) (Nat.le_of_ble_eq_true rfl) dL_isSo_334 ?_
          refine g_top (nI (nm)) (q3) ?_
          refine g_callSI hB (c_L_low _ _ nm hnm0 (by omega)) k_L_125 yk_L_low ⟨Nat.le_of_ble_eq_true rfl, Nat.le_of_ble_eq_true rfl⟩ rfl (Nat.le_of_ble_eq_true rfl) ⟨Nat.le_of_ble_eq_true rfl, Nat.le_of_ble_eq_true rfl⟩ dL_isSo_335 ?_
          rintro _ _ ⟨mm, hmm, rfl, rfl⟩
          refine g_aload_n hB 2 dL_isSo_338 rfl rfl ?_
          refine g_aload_n hB 3 dL_isSo_339 rfl rfl ?_
          refine g_aload hB 4 dL_isSo_340 rfl ?_
          refine g_aload hB 5 dL_isSo_342 rfl ?_
          refine g_aload hB 7 dL_isSo_344 rfl ?_
          refine g_callSI hB (c_L_isMachine hl _ ng nm nc t pa rk mo h hL0 mm hmm) k_L_131 yk_L_isMachine ⟨Nat.le_of_ble_eq_true rfl, Nat.le_of_ble_eq_true rfl⟩ rfl (Nat.le_of_ble_eq_true rfl) ⟨Nat.le_of_ble_eq_true rfl, Nat.le_of_ble_eq_true rfl⟩ dL_isSo_346 ?_
          rintro _ _ ⟨T, rfl, rfl, hT⟩
          refine b_if_eq hB true 356 dL_isSo_349 (by decide) (fun z => by cases z) (fun _ => ?_)
          refine g_iconst hB (nI 1) dL_isSo_352 rfl ?_
          refine g_goto hB 357 dL_isSo_353 (by decide) ?_
          exact g_iret hB hr rfl (Nat.le_of_ble_eq_true rfl) (Nat.le_of_ble_eq_true rfl) (by first | exact ⟨S, rfl, rfl, FRS_r⟩ | exact ⟨T, rfl, rfl, hT⟩) dL_isSo_357
    · have ex : pl7 p = j := h1 (by omega)
      have hx : plB (nI j) ng nm = true := by unfold plB; rw [rgB_nI (by omega), decide_eq_true (show j < ng by omega)]; rfl
      have hto := qv_told h hx (show k < 6 by omega)
      have htv := hto.2.trans (show wh S (mTopI S nc (nI j) (nI k)) = vv by rw [hv, ex])
      refine g_iload hB 9 dL_isSo_298 rfl ?_
      refine g_goto hB 312 dL_isSo_300 (by decide) ?_
      refine g_iload hB 10 dL_isSo_312 rfl ?_
      refine g_callNVI hB (c_X5_told hl _ ng nm nc t pa h.1 _ _) k_L_128 rfl yk_X5_told ⟨Nat.le_of_ble_eq_true rfl, Nat.le_of_ble_eq_true rfl⟩ ⟨(by decide), _, _, _, rfl, rfl, rfl⟩ rfl (Nat.le_of_ble_eq_true rfl) ⟨Nat.le_of_ble_eq_true rfl, Nat.le_of_ble_eq_true rfl⟩ dL_isSo_314 (fun X hX => nx_of (hto.1) hX) ?_
      rintro _ _ ⟨-, rfl, rfl⟩
      refine g_top ((vv)) (htv) ?_
      refine g_iload hB 12 dL_isSo_317 rfl ?_
      refine g_icmp_ne hB 356 dL_isSo_319 (by decide) (fun c_319 => ?_) (fun c_319 => ?_)
      · exact absurd rfl c_319
      · refine g_aload_n hB 2 dL_isSo_322 rfl rfl ?_
        refine g_iconst hB (nI 3) dL_isSo_323 rfl ?_
        refine g_iald hB 22 0 3 (n := 12) (by decide) rfl (by first | assumption | omega) (Nat.le_of_ble_eq_true rfl) dL_isSo_324 ?_
        refine g_top (nI (nm)) (q3) ?_
        refine g_if_eq hB 352 dL_isSo_325 (by decide) (fun c_325 => ?_) (fun c_325 => ?_)
        · refine g_iconst hB (nI 1) dL_isSo_352 rfl ?_
          refine g_goto hB 357 dL_isSo_353 (by decide) ?_
          exact g_iret hB hr rfl (Nat.le_of_ble_eq_true rfl) (Nat.le_of_ble_eq_true rfl) (by first | exact ⟨S, rfl, rfl, FRS_r⟩ | exact ⟨T, rfl, rfl, hT⟩) dL_isSo_357
        · have hnm0 : 0 < nm := by
            rcases Nat.eq_zero_or_pos nm with z | z
            · rw [z] at c_325; exact absurd rfl c_325
            · exact z
          refine g_aload_n hB 0 dL_isSo_328 rfl rfl ?_
          refine g_iload_n hB 1 dL_isSo_329 rfl rfl ?_
          refine g_iconst hB (nI 5) dL_isSo_330 rfl ?_
          refine g_ishr hB dL_isSo_331 ?_
          refine g_aload_n hB 2 dL_isSo_332 rfl rfl ?_
          refine g_iconst hB (nI 3) dL_isSo_333 rfl ?_
          refine g_iald hB 22 0 3 (n := 12) (by decide) rfl (by first | assumption | omega) (Nat.le_of_ble_eq_true rfl) dL_isSo_334 ?_
          refine g_top (nI (nm)) (q3) ?_
          refine g_callSI hB (c_L_low _ _ nm hnm0 (by omega)) k_L_125 yk_L_low ⟨Nat.le_of_ble_eq_true rfl, Nat.le_of_ble_eq_true rfl⟩ rfl (Nat.le_of_ble_eq_true rfl) ⟨Nat.le_of_ble_eq_true rfl, Nat.le_of_ble_eq_true rfl⟩ dL_isSo_335 ?_
          rintro _ _ ⟨mm, hmm, rfl, rfl⟩
          refine g_aload_n hB 2 dL_isSo_338 rfl rfl ?_
          refine g_aload_n hB 3 dL_isSo_339 rfl rfl ?_
          refine g_aload hB 4 dL_isSo_340 rfl ?_
          refine g_aload hB 5 dL_isSo_342 rfl ?_
          refine g_aload hB 7 dL_isSo_344 rfl ?_
          refine g_callSI hB (c_L_isMachine hl _ ng nm nc t pa rk mo h hL0 mm hmm) k_L_131 yk_L_isMachine ⟨Nat.le_of_ble_eq_true rfl, Nat.le_of_ble_eq_true rfl⟩ rfl (Nat.le_of_ble_eq_true rfl) ⟨Nat.le_of_ble_eq_true rfl, Nat.le_of_ble_eq_true rfl⟩ dL_isSo_346 ?_
          rintro _ _ ⟨T, rfl, rfl, hT⟩
          refine b_if_eq hB true 356 dL_isSo_349 (by decide) (fun z => by cases z) (fun _ => ?_)
          refine g_iconst hB (nI 1) dL_isSo_352 rfl ?_
          refine g_goto hB 357 dL_isSo_353 (by decide) ?_
          exact g_iret hB hr rfl (Nat.le_of_ble_eq_true rfl) (Nat.le_of_ble_eq_true rfl) (by first | exact ⟨S, rfl, rfl, FRS_r⟩ | exact ⟨T, rfl, rfl, hT⟩) dL_isSo_357
  have tail : ∀ (j k p : Nat), j < ng + nm → k < 4 → p < 7 → (j < ng → pl7 p = j) → (ng ≤ j → pl7 p = 100 + j - ng) → G p9 l e9 { frames := 9, cells := 400, slots := 2400, locals := 173 } s9 m9 a9 b9 me9 c9 D ad A9 14 (MQ b9 (va_Qi (fun r E' => ∃ T, r = bI true ∧ E' = SH ad ca T ∧ FRS S T) (fun E' t => WW D ad CNT A9 E' t.heap) A9) a9 s9 400 2400 A9) (100) (600) CNT (SH ad ca (S)) 240 [(0, .ref (ad 0 0)), (1, .int (v)), (2, .ref (ad 22 0)), (3, .ref (ad 22 1)), (4, .ref (ad 22 2)), (5, .ref (ad 22 3)), (6, .ref (ad 22 4)), (7, .ref (ad 22 6)), (8, .int (nI 1)), (9, .int (nI j)), (10, .int (nI k))] [.int (nI p)] := by
    intro j k p hj hk hp h1 h2
    have hfin := fun vv hv => fin j k p vv hj hk hp h1 h2 hv
    cases htop : mTopI S nc (nI (pl7 p)) (nI k) with
    | none =>
      refine g_iload hB 10 dL_isSo_240 rfl ?_
      refine g_aload_n hB 2 dL_isSo_242 rfl rfl ?_
      refine g_aload hB 5 dL_isSo_243 rfl ?_
      refine g_callSI hB (c_L_top _ ng nm nc t pa rk hL0.1 hC p k hp hk) k_L_45 yk_L_top ⟨Nat.le_of_ble_eq_true rfl, Nat.le_of_ble_eq_true rfl⟩ rfl (Nat.le_of_ble_eq_true rfl) ⟨Nat.le_of_ble_eq_true rfl, Nat.le_of_ble_eq_true rfl⟩ dL_isSo_245 ?_
      rintro _ _ ⟨rfl, rfl⟩
      refine g_top (nI (0)) (by rw [htop]; rfl) ?_
      refine g_istore hB 11 dL_isSo_248 (by decide) ?_
      refine g_iload hB 11 dL_isSo_250 rfl ?_
      refine g_if_eq hB 269 dL_isSo_252 (by decide) (fun _ => ?_) (fun z => absurd rfl z)
      refine g_iconst hB (-1) dL_isSo_269 rfl ?_
      refine g_goto hB 282 dL_isSo_270 (by decide) ?_
      refine g_istore hB 12 dL_isSo_282 (by decide) ?_
      exact g_sub _ rfl (hfin (-1) (by rw [htop]; rfl))
    | some c =>
      have hc : c < nc := (bestN_lt htop).1
      obtain ⟨p', k', w, st, -, -, -, -, a5, a6, b1, b2, b3, b4, b5, b6, b7, b8, bx⟩ := hC c hc
      have ew : wh S (some c) = bif decide (nI w = nI 101) then -1 else nI w := by unfold wh; dsimp only; rw [b6]
      refine g_iload hB 10 dL_isSo_240 rfl ?_
      refine g_aload_n hB 2 dL_isSo_242 rfl rfl ?_
      refine g_aload hB 5 dL_isSo_243 rfl ?_
      refine g_callSI hB (c_L_top _ ng nm nc t pa rk hL0.1 hC p k hp hk) k_L_45 yk_L_top ⟨Nat.le_of_ble_eq_true rfl, Nat.le_of_ble_eq_true rfl⟩ rfl (Nat.le_of_ble_eq_true rfl) ⟨Nat.le_of_ble_eq_true rfl, Nat.le_of_ble_eq_true rfl⟩ dL_isSo_245 ?_
      rintro _ _ ⟨rfl, rfl⟩
      refine g_top (nI (c + 1)) (by rw [htop]; rfl) ?_
      refine g_istore hB 11 dL_isSo_248 (by decide) ?_
      refine g_iload hB 11 dL_isSo_250 rfl ?_
      refine g_if_eq hB 269 dL_isSo_252 (by decide) (fun c_252 => ?_) (fun c_252 => ?_)
      · exact absurd c_252 (nI_no0 (by omega) (by omega))
      · refine g_aload hB 5 dL_isSo_255 rfl ?_
        refine g_iconst hB (nI 5) dL_isSo_257 rfl ?_
        refine g_iload hB 11 dL_isSo_258 rfl ?_
        refine g_imul hB dL_isSo_260 ?_
        refine g_top (nI (5 * (c + 1))) (pk_mul _ _) ?_
        refine g_iconst hB (nI 3) dL_isSo_261 rfl ?_
        refine g_isub hB dL_isSo_262 ?_
        refine g_top (nI (5 * c + 2)) (sub53) ?_
        refine g_iald hB 22 3 (5 * c + 2) (n := 60) (by decide) rfl (by first | assumption | omega) (Nat.le_of_ble_eq_true rfl) dL_isSo_263 ?_
        refine g_top (nI (w)) (b5) ?_
        refine g_bipush hB (nI 101) dL_isSo_264 rfl ?_
        refine n_icmp_ne hB w 101 273 dL_isSo_266 (by decide) (by omega) (by omega) (fun c_266 => ?_) (fun c_266 => ?_)
        · have d_266 : decide (w = 101) = false := decide_eq_false c_266
          have ev : nI w = wh S (mTopI S nc (nI (pl7 p)) (nI k)) := by rw [htop, ew, decide_eq_false (p := nI w = nI 101) (fun z => c_266 ((nI_eq (by omega) (by omega)).mp z))]; rfl
          refine g_aload hB 5 dL_isSo_273 rfl ?_
          refine g_iconst hB (nI 5) dL_isSo_275 rfl ?_
          refine g_iload hB 11 dL_isSo_276 rfl ?_
          refine g_imul hB dL_isSo_278 ?_
          refine g_top (nI (5 * (c + 1))) (pk_mul _ _) ?_
          refine g_iconst hB (nI 3) dL_isSo_279 rfl ?_
          refine g_isub hB dL_isSo_280 ?_
          refine g_top (nI (5 * c + 2)) (sub53) ?_
          refine g_iald hB 22 3 (5 * c + 2) (n := 60) (by decide) rfl (by first | assumption | omega) (Nat.le_of_ble_eq_true rfl) dL_isSo_281 ?_
          refine g_top (nI (w)) (b5) ?_
          refine g_istore hB 12 dL_isSo_282 (by decide) ?_
          exact g_sub _ rfl (hfin _ ev)
        · have d_266 : decide (w = 101) = true := decide_eq_true c_266
          have ev : (-1 : Int32) = wh S (mTopI S nc (nI (pl7 p)) (nI k)) := by rw [htop, ew, c_266, decide_eq_true rfl]; rfl
          refine g_iconst hB (-1) dL_isSo_269 rfl ?_
          refine g_goto hB 282 dL_isSo_270 (by decide) ?_
          refine g_istore hB 12 dL_isSo_282 (by decide) ?_
          exact g_sub _ rfl (hfin _ ev)
  -- a change after the other
  have loop : ∀ (n c : Nat), nc - c < n → c ≤ nc → G p9 l e9 { frames := 9, cells := 400, slots := 2400, locals := 173 } s9 m9 a9 b9 me9 c9 D ad A9 14 (MQ b9 (va_Qi (fun r E' => ∃ T, r = bI true ∧ E' = SH ad ca T ∧ FRS S T) (fun E' t => WW D ad CNT A9 E' t.heap) A9) a9 s9 400 2400 A9) (4 * c) (24 * c) CNT (SH ad ca (S)) 30 [(0, .ref (ad 0 0)), (1, .int (v)), (2, .ref (ad 22 0)), (3, .ref (ad 22 1)), (4, .ref (ad 22 2)), (5, .ref (ad 22 3)), (6, .ref (ad 22 4)), (7, .ref (ad 22 6)), (8, .int (nI 1)), (9, .int (nI c))] [] := by
    intro n
    induction n with
    | zero => intro c y1; omega
    | succ n ih =>
      intro c y1 y2
      rcases Nat.lt_or_ge c nc with hc | hc
      · have hc12 : c < 12 := by omega
        obtain ⟨p', k', w, st, -, -, -, -, a5, a6, b1, b2, b3, b4, b5, b6, b7, b8, bx⟩ := hC c hc
        have hrk : S 22 3 (5 * c + 4) - nI 1 = S 18 12 c := by
          rcases bx with ⟨z1, z2, z3⟩ | ⟨r0, z1, z2, z3⟩
          · rw [z1, z2]; decide
          · rw [z2, z3]; exact sub1
        have hg5 : cntB (fun p => decide (0 < S 22 4 (5 * c + p))) 5 = mGood S c := (good_5 hL0 hc12).symm
        have hle8 : mGood S c ≤ 8 := cntB_le _ 8
        have hsp : cntB (fun m => hasC S m c) nm ≤ nm := cntB_le _ _
        have mach : ∀ (n' m : Nat), nm - m < n' → m ≤ nm → G p9 l e9 { frames := 9, cells := 400, slots := 2400, locals := 173 } s9 m9 a9 b9 me9 c9 D ad A9 14 (MQ b9 (va_Qi (fun r E' => ∃ T, r = bI true ∧ E' = SH ad ca T ∧ FRS S T) (fun E' t => WW D ad CNT A9 E' t.heap) A9) a9 s9 400 2400 A9) (4 * c) (24 * c) CNT (SH ad ca (S)) 49 [(0, .ref (ad 0 0)), (1, .int (v)), (2, .ref (ad 22 0)), (3, .ref (ad 22 1)), (4, .ref (ad 22 2)), (5, .ref (ad 22 3)), (6, .ref (ad 22 4)), (7, .ref (ad 22 6)), (8, .int (nI 1)), (9, .int (nI c)), (10, .int (nI (cntB (fun m => hasC S m c) m))), (11, .int (nI m))] [] := by
          intro n'
          induction n' with
          | zero => intro m y3; omega
          | succ n' ih' =>
            intro m y3 y4
            rcases Nat.lt_or_ge m nm with hm | hm
            · have h20 := has_20 hL0 (show m < 3 by omega) hc
              have ent : ∀ (n2 i : Nat) (b : Bool), 20 - i < n2 → i ≤ 20 → b = anyB (fun i => decide (S 22 2 (20 * m + i) = nI (c + 1))) i → G p9 l e9 { frames := 9, cells := 400, slots := 2400, locals := 173 } s9 m9 a9 b9 me9 c9 D ad A9 14 (MQ b9 (va_Qi (fun r E' => ∃ T, r = bI true ∧ E' = SH ad ca T ∧ FRS S T) (fun E' t => WW D ad CNT A9 E' t.heap) A9) a9 s9 400 2400 A9) (4 * c) (24 * c) CNT (SH ad ca (S)) 67 [(0, .ref (ad 0 0)), (1, .int (v)), (2, .ref (ad 22 0)), (3, .ref (ad 22 1)), (4, .ref (ad 22 2)), (5, .ref (ad 22 3)), (6, .ref (ad 22 4)), (7, .ref (ad 22 6)), (8, .int (nI 1)), (9, .int (nI c)), (10, .int (nI (cntB (fun m => hasC S m c) m))), (11, .int (nI m)), (12, .int (bI (b))), (13, .int (nI (20 * m + i)))] [] := by
                intro n2
                induction n2 with
                | zero => intro i b y5; omega
                | succ n2 ih2 =>
                  intro i b y5 y6 hbv
                  refine g_iload hB 13 dL_isSo_67 rfl ?_
                  refine g_bipush hB (nI 20) dL_isSo_69 rfl ?_
                  refine g_iload hB 11 dL_isSo_71 rfl ?_
                  refine g_imul hB dL_isSo_73 ?_
                  refine g_top (nI (20 * m)) (pk_mul _ _) ?_
                  refine g_bipush hB (nI 20) dL_isSo_74 rfl ?_
                  refine g_iadd hB dL_isSo_76 ?_
                  refine g_top (nI (20 * m + 20)) (nI_add _ _) ?_
                  refine n_icmp_ge hB (20 * m + i) (20 * m + 20) 106 dL_isSo_77 (by decide) (by omega) (by omega) (fun c_77 => ?_) (fun c_77 => ?_)
                  · have hi : i = 20 := by omega
                    subst hi
                    have hbm : (fun m => hasC S m c) m = b := h20.trans hbv.symm
                    refine g_iload hB 10 dL_isSo_106 rfl ?_
                    refine g_iload hB 12 dL_isSo_108 rfl ?_
                    refine g_iadd hB dL_isSo_110 ?_
                    refine g_top (nI (cntB (fun m => hasC S m c) (m + 1))) (ad_b hbm) ?_
                    refine g_istore hB 10 dL_isSo_111 (by decide) ?_
                    refine g_iinc hB (nI (m + 1)) dL_isSo_113 rfl (nI_1 _) (by decide) ?_
                    refine g_goto hB 49 dL_isSo_116 (by decide) ?_
                    exact g_sub _ rfl (ih' (m + 1) (by omega) (by omega))
                  · refine g_aload hB 4 dL_isSo_80 rfl ?_
                    refine g_iload hB 13 dL_isSo_82 rfl ?_
                    refine g_iald hB 22 2 (20 * m + i) (n := 60) (by decide) rfl (by first | assumption | omega) (Nat.le_of_ble_eq_true rfl) dL_isSo_84 ?_
                    refine g_iload hB 9 dL_isSo_85 rfl ?_
                    refine g_iconst hB (nI 1) dL_isSo_87 rfl ?_
                    refine g_iadd hB dL_isSo_88 ?_
                    refine g_top (nI (c + 1)) (nI_add _ _) ?_
                    refine g_icmp_ne hB 96 dL_isSo_89 (by decide) (fun c_89 => ?_) (fun c_89 => ?_)
                    · refine g_iload hB 12 dL_isSo_96 rfl ?_
                      refine g_istore hB 12 dL_isSo_98 (by decide) ?_
                      refine g_iinc hB (nI (20 * m + i + 1)) dL_isSo_100 rfl (nI_1 _) (by decide) ?_
                      refine g_goto hB 67 dL_isSo_103 (by decide) ?_
                      refine g_sub [(0, .ref (ad 0 0)), (1, .int (v)), (2, .ref (ad 22 0)), (3, .ref (ad 22 1)), (4, .ref (ad 22 2)), (5, .ref (ad 22 3)), (6, .ref (ad 22 4)), (7, .ref (ad 22 6)), (8, .int (nI 1)), (9, .int (nI c)), (10, .int (nI (cntB (fun m => hasC S m c) m))), (11, .int (nI m)), (12, .int (bI (b))), (13, .int (nI (20 * m + (i + 1))))] rfl (ih2 (i + 1) _ (by omega) (by omega) (by rw [anyB, ← hbv, decide_eq_false c_89]; rw [Bool.or_false]))
                    · refine g_iconst hB (nI 1) dL_isSo_92 rfl ?_
                      refine g_goto hB 98 dL_isSo_93 (by decide) ?_
                      refine g_istore hB 12 dL_isSo_98 (by decide) ?_
                      refine g_iinc hB (nI (20 * m + i + 1)) dL_isSo_100 rfl (nI_1 _) (by decide) ?_
                      refine g_goto hB 67 dL_isSo_103 (by decide) ?_
                      refine g_sub [(0, .ref (ad 0 0)), (1, .int (v)), (2, .ref (ad 22 0)), (3, .ref (ad 22 1)), (4, .ref (ad 22 2)), (5, .ref (ad 22 3)), (6, .ref (ad 22 4)), (7, .ref (ad 22 6)), (8, .int (nI 1)), (9, .int (nI c)), (10, .int (nI (cntB (fun m => hasC S m c) m))), (11, .int (nI m)), (12, .int (bI (true))), (13, .int (nI (20 * m + (i + 1))))] rfl (ih2 (i + 1) _ (by omega) (by omega) (by rw [anyB, ← hbv, decide_eq_true c_89]; rw [Bool.or_true]))
              refine g_iload hB 11 dL_isSo_49 rfl ?_
              refine g_aload_n hB 2 dL_isSo_51 rfl rfl ?_
              refine g_iconst hB (nI 3) dL_isSo_52 rfl ?_
              refine g_iald hB 22 0 3 (n := 12) (by decide) rfl (by first | assumption | omega) (Nat.le_of_ble_eq_true rfl) dL_isSo_53 ?_
              refine g_top (nI (nm)) (q3) ?_
              refine n_icmp_ge hB m nm 119 dL_isSo_54 (by decide) (by omega) (by omega) (fun c_54 => ?_) (fun c_54 => ?_)
              · exact absurd c_54 (by omega)
              · refine g_iconst hB (nI 0) dL_isSo_57 rfl ?_
                refine g_istore hB 12 dL_isSo_58 (by decide) ?_
                refine g_bipush hB (nI 20) dL_isSo_60 rfl ?_
                refine g_iload hB 11 dL_isSo_62 rfl ?_
                refine g_imul hB dL_isSo_64 ?_
                refine g_top (nI (20 * m)) (pk_mul _ _) ?_
                refine g_istore hB 13 dL_isSo_65 (by decide) ?_
                exact g_sub [(0, .ref (ad 0 0)), (1, .int (v)), (2, .ref (ad 22 0)), (3, .ref (ad 22 1)), (4, .ref (ad 22 2)), (5, .ref (ad 22 3)), (6, .ref (ad 22 4)), (7, .ref (ad 22 6)), (8, .int (nI 1)), (9, .int (nI c)), (10, .int (nI (cntB (fun m => hasC S m c) m))), (11, .int (nI m)), (12, .int (bI (false))), (13, .int (nI (20 * m + 0)))] rfl (ent 21 0 false (by omega) (by omega) rfl)
            · have hmn : m = nm := by omega
              subst hmn
              refine g_iload hB 11 dL_isSo_49 rfl ?_
              refine g_aload_n hB 2 dL_isSo_51 rfl rfl ?_
              refine g_iconst hB (nI 3) dL_isSo_52 rfl ?_
              refine g_iald hB 22 0 3 (n := 12) (by decide) rfl (by first | assumption | omega) (Nat.le_of_ble_eq_true rfl) dL_isSo_53 ?_
              refine g_top (nI (m)) (q3) ?_
              refine n_icmp_ge hB m m 119 dL_isSo_54 (by decide) (by omega) (by omega) (fun c_54 => ?_) (fun c_54 => ?_)
              · refine g_aload_n hB 0 dL_isSo_119 rfl rfl ?_
                refine g_iload hB 9 dL_isSo_120 rfl ?_
                refine g_callNVI hB (c_X5_state hl _ ng m nc t pa h.1 _) k_L_110 rfl yk_X5_state ⟨Nat.le_of_ble_eq_true rfl, Nat.le_of_ble_eq_true rfl⟩ ⟨(by decide), _, _, _, rfl, rfl, rfl⟩ rfl (Nat.le_of_ble_eq_true rfl) ⟨by show _ ≤ _; first | (dsimp only; omega) | omega, by show _ ≤ _; first | (dsimp only; omega) | omega⟩ dL_isSo_122 (fun X hX => nx_of (rqC_0 hc (by omega)) hX) ?_
                rintro _ _ ⟨-, rfl, rfl⟩
                refine g_top (nI (st)) ((qv_state h hc).1.trans b8) ?_
                refine g_aload hB 5 dL_isSo_125 rfl ?_
                refine g_iconst hB (nI 5) dL_isSo_127 rfl ?_
                refine g_iload hB 9 dL_isSo_128 rfl ?_
                refine g_imul hB dL_isSo_130 ?_
                refine g_top (nI (5 * c)) (pk_mul _ _) ?_
                refine g_iconst hB (nI 3) dL_isSo_131 rfl ?_
                refine g_iadd hB dL_isSo_132 ?_
                refine g_top (nI (5 * c + 3)) (nI_add _ _) ?_
                refine g_iald hB 22 3 (5 * c + 3) (n := 60) (by decide) rfl (by first | assumption | omega) (Nat.le_of_ble_eq_true rfl) dL_isSo_133 ?_
                refine g_top (nI (st)) (b7) ?_
                refine n_icmp_ne hB st st 188 dL_isSo_134 (by decide) (by omega) (by omega) (fun c_134 => ?_) (fun c_134 => ?_)
                · have d_134 : decide (st = st) = false := decide_eq_false c_134
                  exact absurd rfl c_134
                · have d_134 : decide (st = st) = true := decide_eq_true c_134
                  refine g_aload_n hB 0 dL_isSo_137 rfl rfl ?_
                  refine g_iload hB 9 dL_isSo_138 rfl ?_
                  refine g_callNVI hB (c_X5_rank hl _ ng m nc t pa h.1 _) k_L_113 rfl yk_X5_rank ⟨Nat.le_of_ble_eq_true rfl, Nat.le_of_ble_eq_true rfl⟩ ⟨(by decide), _, _, _, rfl, rfl, rfl⟩ rfl (Nat.le_of_ble_eq_true rfl) ⟨by show _ ≤ _; first | (dsimp only; omega) | omega, by show _ ≤ _; first | (dsimp only; omega) | omega⟩ dL_isSo_140 (fun X hX => nx_of (rqC_0 hc (by omega)) hX) ?_
                  rintro _ _ ⟨-, rfl, rfl⟩
                  refine g_top ((S 18 12 c)) ((qv_state h hc).2) ?_
                  refine g_aload hB 5 dL_isSo_143 rfl ?_
                  refine g_iconst hB (nI 5) dL_isSo_145 rfl ?_
                  refine g_iload hB 9 dL_isSo_146 rfl ?_
                  refine g_imul hB dL_isSo_148 ?_
                  refine g_top (nI (5 * c)) (pk_mul _ _) ?_
                  refine g_iconst hB (nI 4) dL_isSo_149 rfl ?_
                  refine g_iadd hB dL_isSo_150 ?_
                  refine g_top (nI (5 * c + 4)) (nI_add _ _) ?_
                  refine g_iald hB 22 3 (5 * c + 4) (n := 60) (by decide) rfl (by first | assumption | omega) (Nat.le_of_ble_eq_true rfl) dL_isSo_151 ?_
                  refine g_iconst hB (nI 1) dL_isSo_152 rfl ?_
                  refine g_isub hB dL_isSo_153 ?_
                  refine g_top ((S 18 12 c)) (hrk) ?_
                  refine g_icmp_ne hB 188 dL_isSo_154 (by decide) (fun c_154 => ?_) (fun c_154 => ?_)
                  · exact absurd rfl c_154
                  · refine g_aload_n hB 0 dL_isSo_157 rfl rfl ?_
                    refine g_iload hB 9 dL_isSo_158 rfl ?_
                    refine g_callNVI hB (c_X5_approvals hl _ ng m nc t pa h.1 _) k_L_116 rfl yk_X5_approvals ⟨Nat.le_of_ble_eq_true rfl, Nat.le_of_ble_eq_true rfl⟩ ⟨(by decide), _, _, _, rfl, rfl, rfl⟩ rfl (Nat.le_of_ble_eq_true rfl) ⟨by show _ ≤ _; first | (dsimp only; omega) | omega, by show _ ≤ _; first | (dsimp only; omega) | omega⟩ dL_isSo_160 (fun X hX => nx_of (rqC_0 hc (by omega)) hX) ?_
                    rintro _ _ ⟨-, rfl, rfl⟩
                    refine g_top (nI (mGood S c)) (qv_appr h hc) ?_
                    refine g_iload hB 9 dL_isSo_163 rfl ?_
                    refine g_aload hB 6 dL_isSo_165 rfl ?_
                    refine g_callSI hB (c_L_good _ c hc12) k_L_119 yk_L_good ⟨Nat.le_of_ble_eq_true rfl, Nat.le_of_ble_eq_true rfl⟩ rfl (Nat.le_of_ble_eq_true rfl) ⟨by show _ ≤ _; first | (dsimp only; omega) | omega, by show _ ≤ _; first | (dsimp only; omega) | omega⟩ dL_isSo_167 ?_
                    rintro _ _ ⟨rfl, rfl⟩
                    refine g_top (nI (mGood S c)) (by rw [hg5]) ?_
                    refine n_icmp_ne hB (mGood S c) (mGood S c) 188 dL_isSo_170 (by decide) (by omega) (by omega) (fun c_170 => ?_) (fun c_170 => ?_)
                    · have d_170 : decide (mGood S c = mGood S c) = false := decide_eq_false c_170
                      exact absurd rfl c_170
                    · have d_170 : decide (mGood S c = mGood S c) = true := decide_eq_true c_170
                      refine g_aload_n hB 0 dL_isSo_173 rfl rfl ?_
                      refine g_iload hB 9 dL_isSo_174 rfl ?_
                      refine g_callNVI hB (c_X5_spread hl _ ng m nc t pa h.1 _) k_L_122 rfl yk_X5_spread ⟨Nat.le_of_ble_eq_true rfl, Nat.le_of_ble_eq_true rfl⟩ ⟨(by decide), _, _, _, rfl, rfl, rfl⟩ rfl (Nat.le_of_ble_eq_true rfl) ⟨by show _ ≤ _; first | (dsimp only; omega) | omega, by show _ ≤ _; first | (dsimp only; omega) | omega⟩ dL_isSo_176 (fun X hX => nx_of (rqC_0 hc (by omega)) hX) ?_
                      rintro _ _ ⟨-, rfl, rfl⟩
                      refine g_top (nI (cntB (fun m => hasC S m c) m)) (qv_spread h hc) ?_
                      refine g_iload hB 10 dL_isSo_179 rfl ?_
                      refine n_icmp_ne hB (cntB (fun m => hasC S m c) m) (cntB (fun m => hasC S m c) m) 188 dL_isSo_181 (by decide) (by omega) (by omega) (fun c_181 => ?_) (fun c_181 => ?_)
                      · have d_181 : decide (cntB (fun m => hasC S m c) m = cntB (fun m => hasC S m c) m) = false := decide_eq_false c_181
                        exact absurd rfl c_181
                      · have d_181 : decide (cntB (fun m => hasC S m c) m = cntB (fun m => hasC S m c) m) = true := decide_eq_true c_181
                        refine g_iconst hB (nI 1) dL_isSo_184 rfl ?_
                        refine g_goto hB 189 dL_isSo_185 (by decide) ?_
                        refine g_istore hB 8 dL_isSo_189 (by decide) ?_
                        refine g_iinc hB (nI (c + 1)) dL_isSo_191 rfl (nI_1 _) (by decide) ?_
                        refine g_goto hB 30 dL_isSo_194 (by decide) ?_
                        refine g_widen (k := 4 * (c + 1)) (n := 24 * (c + 1)) (by show _ ≤ _; first | (dsimp only; omega) | omega) (by show _ ≤ _; first | (dsimp only; omega) | omega) ?_
                        exact g_sub _ rfl (ih (c + 1) (by omega) (by omega))
              · exact absurd c_54 (by omega)
        refine g_iload hB 9 dL_isSo_30 rfl ?_
        refine g_aload_n hB 2 dL_isSo_32 rfl rfl ?_
        refine g_iconst hB (nI 4) dL_isSo_33 rfl ?_
        refine g_iald hB 22 0 4 (n := 12) (by decide) rfl (by first | assumption | omega) (Nat.le_of_ble_eq_true rfl) dL_isSo_34 ?_
        refine g_top (nI (nc)) (q4) ?_
        refine n_icmp_ge hB c nc 197 dL_isSo_35 (by decide) (by omega) (by omega) (fun c_35 => ?_) (fun c_35 => ?_)
        · exact absurd c_35 (by omega)
        · refine g_iload hB 8 dL_isSo_38 rfl ?_
          refine g_if_eq hB 197 dL_isSo_40 (by decide) (fun z => absurd z (by decide)) (fun _ => ?_)
          refine g_iconst hB (nI 0) dL_isSo_43 rfl ?_
          refine g_istore hB 10 dL_isSo_44 (by decide) ?_
          refine g_iconst hB (nI 0) dL_isSo_46 rfl ?_
          refine g_istore hB 11 dL_isSo_47 (by decide) ?_
          exact g_sub [(0, .ref (ad 0 0)), (1, .int (v)), (2, .ref (ad 22 0)), (3, .ref (ad 22 1)), (4, .ref (ad 22 2)), (5, .ref (ad 22 3)), (6, .ref (ad 22 4)), (7, .ref (ad 22 6)), (8, .int (nI 1)), (9, .int (nI c)), (10, .int (nI (cntB (fun m => hasC S m c) 0))), (11, .int (nI 0))] rfl (mach (nm + 1) 0 (by omega) (by omega))
      · have hcn : c = nc := by omega
        subst hcn
        refine g_iload hB 9 dL_isSo_30 rfl ?_
        refine g_aload_n hB 2 dL_isSo_32 rfl rfl ?_
        refine g_iconst hB (nI 4) dL_isSo_33 rfl ?_
        refine g_iald hB 22 0 4 (n := 12) (by decide) rfl (by first | assumption | omega) (Nat.le_of_ble_eq_true rfl) dL_isSo_34 ?_
        refine g_top (nI (c)) (q4) ?_
        refine n_icmp_ge hB c c 197 dL_isSo_35 (by decide) (by omega) (by omega) (fun c_35 => ?_) (fun c_35 => ?_)
        · refine g_iload_n hB 1 dL_isSo_197 rfl rfl ?_
          refine g_aload_n hB 2 dL_isSo_198 rfl rfl ?_
          refine g_iconst hB (nI 2) dL_isSo_199 rfl ?_
          refine g_iald hB 22 0 2 (n := 12) (by decide) rfl (by first | assumption | omega) (Nat.le_of_ble_eq_true rfl) dL_isSo_200 ?_
          refine g_top (nI (ng)) (q2) ?_
          refine g_aload_n hB 2 dL_isSo_201 rfl rfl ?_
          refine g_iconst hB (nI 3) dL_isSo_202 rfl ?_
          refine g_iald hB 22 0 3 (n := 12) (by decide) rfl (by first | assumption | omega) (Nat.le_of_ble_eq_true rfl) dL_isSo_203 ?_
          refine g_top (nI (nm)) (q3) ?_
          refine g_iadd hB dL_isSo_204 ?_
          refine g_top (nI (ng + nm)) (nI_add _ _) ?_
          refine g_callSI hB (c_L_low _ _ (ng + nm) (by omega) (by omega)) k_L_125 yk_L_low ⟨Nat.le_of_ble_eq_true rfl, Nat.le_of_ble_eq_true rfl⟩ rfl (Nat.le_of_ble_eq_true rfl) ⟨by show _ ≤ _; first | (dsimp only; omega) | omega, by show _ ≤ _; first | (dsimp only; omega) | omega⟩ dL_isSo_205 ?_
          rintro _ _ ⟨j, hj, rfl, rfl⟩
          refine g_istore hB 9 dL_isSo_208 (by decide) ?_
          refine g_iload_n hB 1 dL_isSo_210 rfl rfl ?_
          refine g_iconst hB (nI 3) dL_isSo_211 rfl ?_
          refine g_ishr hB dL_isSo_212 ?_
          refine g_iconst hB (nI 4) dL_isSo_213 rfl ?_
          refine g_callSI hB (c_L_low _ _ 4 (by omega) (by omega)) k_L_125 yk_L_low ⟨Nat.le_of_ble_eq_true rfl, Nat.le_of_ble_eq_true rfl⟩ rfl (Nat.le_of_ble_eq_true rfl) ⟨by show _ ≤ _; first | (dsimp only; omega) | omega, by show _ ≤ _; first | (dsimp only; omega) | omega⟩ dL_isSo_214 ?_
          rintro _ _ ⟨k, hk, rfl, rfl⟩
          refine g_istore hB 10 dL_isSo_217 (by decide) ?_
          refine g_iload hB 9 dL_isSo_219 rfl ?_
          refine g_aload_n hB 2 dL_isSo_221 rfl rfl ?_
          refine g_iconst hB (nI 2) dL_isSo_222 rfl ?_
          refine g_iald hB 22 0 2 (n := 12) (by decide) rfl (by first | assumption | omega) (Nat.le_of_ble_eq_true rfl) dL_isSo_223 ?_
          refine g_top (nI (ng)) (q2) ?_
          refine n_icmp_ge hB j ng 232 dL_isSo_224 (by decide) (by omega) (by omega) (fun c_224 => ?_) (fun c_224 => ?_)
          · refine g_iconst hB (nI 4) dL_isSo_232 rfl ?_
            refine g_iload hB 9 dL_isSo_233 rfl ?_
            refine g_iadd hB dL_isSo_235 ?_
            refine g_top (nI (4 + j)) (nI_add _ _) ?_
            refine g_aload_n hB 2 dL_isSo_236 rfl rfl ?_
            refine g_iconst hB (nI 2) dL_isSo_237 rfl ?_
            refine g_iald hB 22 0 2 (n := 12) (by decide) rfl (by first | assumption | omega) (Nat.le_of_ble_eq_true rfl) dL_isSo_238 ?_
            refine g_top (nI (ng)) (q2) ?_
            refine g_isub hB dL_isSo_239 ?_
            refine g_top (nI (4 + j - ng)) (pk_sub (by omega)) ?_
            refine g_widen (k := 100) (n := 600) (by show _ ≤ _; first | (dsimp only; omega) | omega) (by show _ ≤ _; first | (dsimp only; omega) | omega) ?_
            exact g_sub _ rfl (tail j k (4 + j - ng) hj hk (by omega) (fun z => by omega) (fun z => by unfold pl7; rw [if_neg (by omega)]; omega))
          · refine g_iload hB 9 dL_isSo_227 rfl ?_
            refine g_goto hB 240 dL_isSo_229 (by decide) ?_
            refine g_widen (k := 100) (n := 600) (by show _ ≤ _; first | (dsimp only; omega) | omega) (by show _ ≤ _; first | (dsimp only; omega) | omega) ?_
            exact g_sub _ rfl (tail j k j hj hk (by omega) (fun z => by unfold pl7; rw [if_pos (by omega)]) (fun z => by omega))
        · exact absurd c_35 (by omega)
  refine g_aload_n hB 0 dL_isSo_0 rfl rfl ?_
  refine g_callVI hB (c_X5_day _) k_L_103 rfl yk_X5_day ⟨Nat.le_of_ble_eq_true rfl, Nat.le_of_ble_eq_true rfl⟩ ⟨(by decide), _, _, _, rfl, rfl, rfl⟩ rfl (Nat.le_of_ble_eq_true rfl) ⟨Nat.le_of_ble_eq_true rfl, Nat.le_of_ble_eq_true rfl⟩ dL_isSo_1 ?_
  rintro _ _ ⟨rfl, rfl⟩
  refine g_top (nI (t)) (eday) ?_
  refine g_aload_n hB 2 dL_isSo_4 rfl rfl ?_
  refine g_iconst hB (nI 0) dL_isSo_5 rfl ?_
  refine g_iald hB 22 0 0 (n := 12) (by decide) rfl (by first | assumption | omega) (Nat.le_of_ble_eq_true rfl) dL_isSo_6 ?_
  refine g_top (nI (t)) (q0) ?_
  refine n_icmp_ne hB t t 24 dL_isSo_7 (by decide) (by omega) (by omega) (fun c_7 => ?_) (fun c_7 => ?_)
  · have d_7 : decide (t = t) = false := decide_eq_false c_7
    exact absurd rfl c_7
  · have d_7 : decide (t = t) = true := decide_eq_true c_7
    refine g_aload_n hB 0 dL_isSo_10 rfl rfl ?_
    refine g_callVI hB (c_X5_changes _) k_L_107 rfl yk_X5_changes ⟨Nat.le_of_ble_eq_true rfl, Nat.le_of_ble_eq_true rfl⟩ ⟨(by decide), _, _, _, rfl, rfl, rfl⟩ rfl (Nat.le_of_ble_eq_true rfl) ⟨Nat.le_of_ble_eq_true rfl, Nat.le_of_ble_eq_true rfl⟩ dL_isSo_11 ?_
    rintro _ _ ⟨rfl, rfl⟩
    refine g_top (nI (nc)) (ecnt) ?_
    refine g_aload_n hB 2 dL_isSo_14 rfl rfl ?_
    refine g_iconst hB (nI 4) dL_isSo_15 rfl ?_
    refine g_iald hB 22 0 4 (n := 12) (by decide) rfl (by first | assumption | omega) (Nat.le_of_ble_eq_true rfl) dL_isSo_16 ?_
    refine g_top (nI (nc)) (q4) ?_
    refine n_icmp_ne hB nc nc 24 dL_isSo_17 (by decide) (by omega) (by omega) (fun c_17 => ?_) (fun c_17 => ?_)
    · have d_17 : decide (nc = nc) = false := decide_eq_false c_17
      exact absurd rfl c_17
    · have d_17 : decide (nc = nc) = true := decide_eq_true c_17
      refine g_iconst hB (nI 1) dL_isSo_20 rfl ?_
      refine g_goto hB 25 dL_isSo_21 (by decide) ?_
      refine g_istore hB 8 dL_isSo_25 (by decide) ?_
      refine g_iconst hB (nI 0) dL_isSo_27 rfl ?_
      refine g_istore hB 9 dL_isSo_28 (by decide) ?_
      refine g_widen (k := 4 * 0) (n := 24 * 0) (by show _ ≤ _; first | (dsimp only; omega) | omega) (by show _ ≤ _; first | (dsimp only; omega) | omega) ?_
      exact g_sub _ rfl (loop (nc + 1) 0 (by omega) (by omega))
end L8
