/-! the law: a machine is what it should be -/
section L7
variable {l : Launch} {D : va_G} {ad : Nat → Nat → Nat} {ca : Nat → ClassId}
theorem it_sub {nc x : Nat} {ch : Int32} (h : itR nc ch x) : nI x - nI 1 = ch := by
  rcases h with ⟨a, b⟩ | ⟨c, c1, c2, c3⟩
  · rw [a, b]; decide
  · rw [c2, c3]; exact sub1
theorem lag_18 {S T : Mem} {nc m : Nat} (h : T 18 = S 18) : (fun i => mLag T nc m ((lay (T 18 2) (grp T m)).getD i 0)) = (fun i => mLag S nc m ((lay (S 18 2) (grp S m)).getD i 0)) := by
  unfold mLag mTop mTopI mOkI grp
  rw [h]
theorem grp_18 {S T : Mem} {m : Nat} (h : T 18 = S 18) : grp T m = grp S m := by unfold grp; rw [h]
theorem or4 {S : Mem} {ng nm nc t pa rk m : Nat} (hL : LR S ng nm nc t pa rk) (hR : RI S ng nm nc t pa) (hm : m < nm) : orN (fun k => rHid S nc m (grp S m) false k) 6 = orN (fun k => rHid S nc m (grp S m) false k) 4 := by
  have hz : ∀ k, 4 ≤ k → k < 6 → rHid S nc m (grp S m) false k = false := fun k h4 h6 => by
    rw [hid_4 hL hR hm]
    refine anyB_f fun o _ => ?_
    unfold hddB
    rw [look_hi hL hR hm h4 h6, decide_eq_false (p := ((-1, -1, -1) : Int32 × Int32 × Int32).1 ≠ -1) (fun z => z rfl), Bool.false_and, Bool.and_false]
  show orN (fun k => rHid S nc m (grp S m) false k) 4 ||| (bif rHid S nc m (grp S m) false 4 then nI 1 <<< (nI 4 &&& 31) else nI 0) ||| (bif rHid S nc m (grp S m) false 5 then nI 1 <<< (nI 5 &&& 31) else nI 0) = _
  rw [hz 4 (by decide) (by decide), hz 5 (by decide) (by decide), cond_false, cond_false, or_zero32, or_zero32]
theorem run_5 {S : Mem} {ng nm nc t pa rk m : Nat} (hL : LR S ng nm nc t pa rk) (hR : RI S ng nm nc t pa) (hm : m < nm) : runV S nc m (grp S m) 5 = -1 := by
  unfold runV
  rw [look_hi hL hR hm (by decide) (by decide)]
  cases mHalt S m <;> cases rHid S nc m (grp S m) true 5 <;> rfl

theorem c_L_isMachine (hl : l.stackTraces = false) (S : Mem) (ng nm nc t pa rk mo : Nat) (h : INV S ng nm nc t pa rk mo) (hL : LR S ng nm nc t pa rk) (m : Nat) (hm : m < nm) : CI l yL_isMachine cL_isMachine 17 (some .boolean) { frames := 8, cells := 200, slots := 1200, locals := 137 } D ad CNT ca SR (SH ad ca S) [.ref (ad 0 0), .int (nI m), .ref (ad 22 0), .ref (ad 22 1), .ref (ad 22 2), .ref (ad 22 3), .ref (ad 22 6)] (fun r E' => ∃ T, r = bI true ∧ E' = SH ad ca T ∧ FRS S T) := by
  have hR := h.2.1
  have hL0 := hL
  obtain ⟨⟨⟨q0, q1, q2, q3, q4, q5⟩, hng1, hng4, hnm3, hnc12, ht20, hrk20, hpa12⟩, hD, hG, hN, hT, hZ, hC, hCz, hA, hGa, hE⟩ := hL
  have hld := lay_dup hR hm
  have hb := qv_bd h
  have hbl := busy_lt hL0 hR hm
  have ebs : decide (nI t < S 22 1 (7 + m)) = decide (S 17 0 1 < S 18 4 m) := decide_eq_decide.mpr hbl
  refine CI.of _ RL (by decide +kernel) rfl (Nat.le_of_ble_eq_true rfl) ?_
  intro p9 e9 s9 m9 a9 b9 me9 c9 A9 hB hr hnm9
  -- the end
  have fin : ∀ T : Mem, FRS S T → G p9 l e9 { frames := 8, cells := 200, slots := 1200, locals := 137 } s9 m9 a9 b9 me9 c9 D ad A9 17 (MQ b9 (va_Qi (fun r E' => ∃ T, r = bI true ∧ E' = SH ad ca T ∧ FRS S T) (fun E' t => WW D ad CNT A9 E' t.heap) A9) a9 s9 200 1200 A9) (100) (600) CNT (SH ad ca (T)) 402 [(0, .ref (ad 0 0)), (1, .int (nI m)), (2, .ref (ad 22 0)), (3, .ref (ad 22 1)), (4, .ref (ad 22 2)), (5, .ref (ad 22 3)), (6, .ref (ad 22 6)), (7, .int (nI (cntB (fun i => mLag S nc m ((lay (S 18 2) (grp S m)).getD i 0)) (lay (S 18 2) (grp S m)).length))), (8, .int (orN (fun k => rHid S nc m (grp S m) false k) 4)), (10, .int (nI 1))] [] := by
    intro T hF
    have hT18 : T 18 = S 18 := FRS_k hF (by decide) (by decide) (by decide) (by decide)
    have hIT := INV_fr h hF
    have hLT := FRS_LR hF hL0
    have v1 : nI (bhN T (ix (nI m))) = nI (cntB (fun i => mLag S nc m ((lay (S 18 2) (grp S m)).getD i 0)) (lay (S 18 2) (grp S m)).length) := by
      rw [qv_behind hIT hm, lag_18 hT18, grp_18 hT18, hT18]
    have v2 : duM T nc (ix (nI m)) 15 0 3 = orN (fun k => rHid S nc m (grp S m) false k) 4 := by
      rw [ix_nI (by omega), (du_eq hIT hm).1, or4 hLT hIT.2.1 hm, grp_18 hT18]
      exact orN_cong fun k _ => hid_18 hT18
    have hcb : cntB (fun i => mLag S nc m ((lay (S 18 2) (grp S m)).getD i 0)) (lay (S 18 2) (grp S m)).length ≤ (lay (S 18 2) (grp S m)).length := cntB_le _ _
    have hF2 : FRS S (duM T nc (ix (nI m))) := FRS_t hF FRS_du
    have v3 : ∀ T2 : Mem, FRS S T2 → vsh (ruM T2 nc (ix (nI m))) (ix (nI 5)) = -1 := fun T2 hF2 => by
      have hI2 := INV_fr h hF2
      rw [ix_nI (by omega), ix_nI (by decide), (ru_eq hI2 hm (by decide)).1, run_5 (FRS_LR hF2 hL0) hI2.2.1 hm]
    refine g_iload hB 10 dL_isMachine_402 rfl ?_
    refine g_if_eq hB 441 dL_isMachine_404 (by decide) (fun z => absurd z (by decide)) (fun _ => ?_)
    refine g_aload_n hB 0 dL_isMachine_407 rfl rfl ?_
    refine g_iload_n hB 1 dL_isMachine_408 rfl rfl ?_
    refine g_callNVI hB (c_X5_behind hl _ ng nm nc t pa hIT.1 _) k_L_96 rfl yk_X5_behind ⟨Nat.le_of_ble_eq_true rfl, Nat.le_of_ble_eq_true rfl⟩ ⟨(by decide), _, _, _, rfl, rfl, rfl⟩ rfl (Nat.le_of_ble_eq_true rfl) ⟨Nat.le_of_ble_eq_true rfl, Nat.le_of_ble_eq_true rfl⟩ dL_isMachine_409 (fun X hX => nx_of (rqC_0 hm (by omega)) hX) ?_
    rintro _ _ ⟨-, rfl, rfl⟩
    refine g_top (nI (cntB (fun i => mLag S nc m ((lay (S 18 2) (grp S m)).getD i 0)) (lay (S 18 2) (grp S m)).length)) (v1) ?_
    refine g_iload hB 7 dL_isMachine_412 rfl ?_
    refine n_icmp_ne hB (cntB (fun i => mLag S nc m ((lay (S 18 2) (grp S m)).getD i 0)) (lay (S 18 2) (grp S m)).length) (cntB (fun i => mLag S nc m ((lay (S 18 2) (grp S m)).getD i 0)) (lay (S 18 2) (grp S m)).length) 441 dL_isMachine_414 (by decide) (by omega) (by omega) (fun c_414 => ?_) (fun c_414 => ?_)
    · have d_414 : decide (cntB (fun i => mLag S nc m ((lay (S 18 2) (grp S m)).getD i 0)) (lay (S 18 2) (grp S m)).length = cntB (fun i => mLag S nc m ((lay (S 18 2) (grp S m)).getD i 0)) (lay (S 18 2) (grp S m)).length) = false := decide_eq_false c_414
      exact absurd rfl c_414
    · have d_414 : decide (cntB (fun i => mLag S nc m ((lay (S 18 2) (grp S m)).getD i 0)) (lay (S 18 2) (grp S m)).length = cntB (fun i => mLag S nc m ((lay (S 18 2) (grp S m)).getD i 0)) (lay (S 18 2) (grp S m)).length) = true := decide_eq_true c_414
      refine g_aload_n hB 0 dL_isMachine_417 rfl rfl ?_
      refine g_iload_n hB 1 dL_isMachine_418 rfl rfl ?_
      refine g_callNVI hB (c_X5_hidden hl _ ng nm nc t pa hIT.1 _) k_L_100 rfl yk_X5_hidden ⟨Nat.le_of_ble_eq_true rfl, Nat.le_of_ble_eq_true rfl⟩ ⟨(by decide), _, _, _, rfl, rfl, rfl⟩ rfl (Nat.le_of_ble_eq_true rfl) ⟨Nat.le_of_ble_eq_true rfl, Nat.le_of_ble_eq_true rfl⟩ dL_isMachine_419 (fun X hX => nx_of (rqC_0 hm (by omega)) hX) ?_
      rintro _ _ ⟨-, rfl, rfl⟩
      generalize duM T nc (ix (nI m)) = T2 at hF2 v2 ⊢
      have hI2 := INV_fr h hF2
      refine g_top ((orN (fun k => rHid S nc m (grp S m) false k) 4)) (v2) ?_
      refine g_iload hB 8 dL_isMachine_422 rfl ?_
      refine g_icmp_ne hB 441 dL_isMachine_424 (by decide) (fun c_424 => ?_) (fun c_424 => ?_)
      · exact absurd rfl c_424
      · refine g_aload_n hB 0 dL_isMachine_427 rfl rfl ?_
        refine g_iload_n hB 1 dL_isMachine_428 rfl rfl ?_
        refine g_iconst hB (nI 5) dL_isMachine_429 rfl ?_
        refine g_callNVI hB (c_X5_runs hl _ ng nm nc t pa hI2.1 _ _) k_L_90 rfl yk_X5_runs ⟨Nat.le_of_ble_eq_true rfl, Nat.le_of_ble_eq_true rfl⟩ ⟨(by decide), _, _, _, rfl, rfl, rfl⟩ rfl (Nat.le_of_ble_eq_true rfl) ⟨Nat.le_of_ble_eq_true rfl, Nat.le_of_ble_eq_true rfl⟩ dL_isMachine_430 (fun X hX => nx_of (r2C_0 hm (by decide) (by omega)) hX) ?_
        rintro _ _ ⟨-, rfl, rfl⟩
        have hF3 : FRS S (ruM T2 nc (ix (nI m))) := FRS_t hF2 FRS_ru
        refine g_top ((-1)) (v3 T2 hF2) ?_
        refine g_iconst hB (-1) dL_isMachine_433 rfl ?_
        refine g_icmp_ne hB 441 dL_isMachine_434 (by decide) (fun z => absurd rfl z) (fun _ => ?_)
        refine g_iconst hB (nI 1) dL_isMachine_437 rfl ?_
        refine g_goto hB 442 dL_isMachine_438 (by decide) ?_
        exact g_iret hB hr rfl (Nat.le_of_ble_eq_true rfl) (Nat.le_of_ble_eq_true rfl) (⟨_, rfl, rfl, hF3⟩) dL_isMachine_442
  have hgS : grp S m = grp S m := rfl

  have key : ∀ (n k : Nat) (T : Mem), 4 - k < n → k ≤ 4 → FRS S T → G p9 l e9 { frames := 8, cells := 200, slots := 1200, locals := 137 } s9 m9 a9 b9 me9 c9 D ad A9 17 (MQ b9 (va_Qi (fun r E' => ∃ T, r = bI true ∧ E' = SH ad ca T ∧ FRS S T) (fun E' t => WW D ad CNT A9 E' t.heap) A9) a9 s9 200 1200 A9) (62 + 8 * k) (372 + 48 * k) CNT (SH ad ca (T)) 171 [(0, .ref (ad 0 0)), (1, .int (nI m)), (2, .ref (ad 22 0)), (3, .ref (ad 22 1)), (4, .ref (ad 22 2)), (5, .ref (ad 22 3)), (6, .ref (ad 22 6)), (7, .int (nI (cntB (fun i => mLag S nc m ((lay (S 18 2) (grp S m)).getD i 0)) (lay (S 18 2) (grp S m)).length))), (8, .int (orN (fun k => rHid S nc m (grp S m) false k) k)), (9, .int (bI (mHalt S m))), (10, .int (nI 1)), (11, .int (nI k))] [] := by
    intro n
    induction n with
    | zero => intro k T y1; omega
    | succ n ih =>
      intro k T y1 y2 hF
      have hT18 : T 18 = S 18 := FRS_k hF (by decide) (by decide) (by decide) (by decide)
      have hIT := INV_fr h hF
      have hLT := FRS_LR hF hL0
      have hRT := hIT.2.1
      have eg : grp T m = grp S m := grp_18 hT18
      rcases Nat.lt_or_ge k 4 with hk | hk
      · -- the class's four answers
        have stD : ∀ (v12 v13 vv : Int32) (b1 nn : Bool), vv = dueV S nc m (grp S m) k → (nn = true → runV S nc m (grp S m) k = -1 ∧ runL S nc m (grp S m) k = -1) → (nn = false → ∃ i c w, i < 5 ∧ c < nc ∧ w < 102 ∧ v13 = nI (100 * i + c) ∧ runV S nc m (grp S m) k = nI w ∧ runL S nc m (grp S m) k = nI i ∧ S 22 3 (5 * c + 2) = nI w) → G p9 l e9 { frames := 8, cells := 200, slots := 1200, locals := 137 } s9 m9 a9 b9 me9 c9 D ad A9 17 (MQ b9 (va_Qi (fun r E' => ∃ T, r = bI true ∧ E' = SH ad ca T ∧ FRS S T) (fun E' t => WW D ad CNT A9 E' t.heap) A9) a9 s9 200 1200 A9) (62 + 8 * k) (372 + 48 * k) CNT (SH ad ca (T)) 310 [(0, .ref (ad 0 0)), (1, .int (nI m)), (2, .ref (ad 22 0)), (3, .ref (ad 22 1)), (4, .ref (ad 22 2)), (5, .ref (ad 22 3)), (6, .ref (ad 22 6)), (7, .int (nI (cntB (fun i => mLag S nc m ((lay (S 18 2) (grp S m)).getD i 0)) (lay (S 18 2) (grp S m)).length))), (8, .int (orN (fun k => rHid S nc m (grp S m) false k) (k + 1))), (9, .int (bI (mHalt S m))), (10, .int (nI 1)), (11, .int (nI k)), (12, .int (v12)), (13, .int (v13)), (14, .int (bI (b1))), (15, .int (bI (nn))), (16, .int (vv))] [] := by
          intro v12 v13 vv b1 nn z1 z2 z3
          have hF2 : FRS S (duM T nc (ix (nI m))) := FRS_t hF FRS_du
          have w1 : vsh (duM T nc (ix (nI m))) (ix (nI k)) = vv := by
            rw [ix_nI (by omega), ix_nI (by omega), (du_eq hIT hm).2 k (by omega), eg, dueV_18 hT18, z1]
          have w2 : ∀ T2, FRS S T2 → vsh (daM T2 nc (ix (nI m))) (ix (nI k)) = vv := fun T2 q => by
            have q18 : T2 18 = S 18 := FRS_k q (by decide) (by decide) (by decide) (by decide)
            rw [ix_nI (by omega), ix_nI (by omega), da_eq (INV_fr h q) hm (by omega), grp_18 q18, dueV_18 q18, z1]
          have w3 : ∀ T2, FRS S T2 → vsh (ruM T2 nc (ix (nI m))) (ix (nI k)) = runV S nc m (grp S m) k ∧ loV (ruM T2 nc (ix (nI m))) (ix (nI k)) = runL S nc m (grp S m) k := fun T2 q => by
            have q18 : T2 18 = S 18 := FRS_k q (by decide) (by decide) (by decide) (by decide)
            have := ru_eq (k := k) (INV_fr h q) hm (by omega)
            rw [ix_nI (by omega), ix_nI (by omega), this.1, this.2, grp_18 q18, runV_18 q18, runL_18 q18]
            exact ⟨rfl, rfl⟩
          have q22 : ∀ T2, FRS S T2 → ∀ j, T2 22 3 j = S 22 3 j := fun T2 q j => congrFun (q 22 3 (by decide) (by decide) (by decide) (by decide)) j
          have hau : ∀ T2, FRS S T2 → ∀ c, c < nc → ∃ a, a < 8 ∧ T2 9 c 0 = nI a := fun T2 q c hc => by
            obtain ⟨a, s', k', c1, c2, c3, c4, -⟩ := (INV_fr h q).2.2.2.2.2.2.2.2.1 c hc
            exact ⟨a, c1, c4⟩

          cases nn with
          | true =>
            obtain ⟨z4, z5⟩ := z2 rfl
            refine g_aload_n hB 0 dL_isMachine_310 rfl rfl ?_
            refine g_iload_n hB 1 dL_isMachine_311 rfl rfl ?_
            refine g_iload hB 11 dL_isMachine_312 rfl ?_
            refine g_callNVI hB (c_X5_due hl _ ng nm nc t pa hIT.1 _ _) k_L_84 rfl yk_X5_due ⟨Nat.le_of_ble_eq_true rfl, Nat.le_of_ble_eq_true rfl⟩ ⟨(by decide), _, _, _, rfl, rfl, rfl⟩ rfl (Nat.le_of_ble_eq_true rfl) ⟨by show _ ≤ _; first | (dsimp only; omega) | omega, by show _ ≤ _; first | (dsimp only; omega) | omega⟩ dL_isMachine_314 (fun X hX => nx_of (r2C_0 hm (by omega) (by omega)) hX) ?_
            rintro _ _ ⟨-, rfl, rfl⟩
            generalize duM T nc (ix (nI m)) = T2 at hF2 w1 ⊢
            refine g_top ((vv)) (w1) ?_
            refine g_iload hB 16 dL_isMachine_317 rfl ?_
            refine g_icmp_ne hB 393 dL_isMachine_319 (by decide) (fun c_319 => ?_) (fun c_319 => ?_)
            · exact absurd rfl c_319
            · refine g_aload_n hB 0 dL_isMachine_322 rfl rfl ?_
              refine g_iload_n hB 1 dL_isMachine_323 rfl rfl ?_
              refine g_iload hB 11 dL_isMachine_324 rfl ?_
              refine g_callNVI hB (c_X5_dueAnew hl _ ng nm nc t pa (INV_fr h hF2).1 (hau T2 hF2) _ _) k_L_87 rfl yk_X5_dueAnew ⟨Nat.le_of_ble_eq_true rfl, Nat.le_of_ble_eq_true rfl⟩ ⟨(by decide), _, _, _, rfl, rfl, rfl⟩ rfl (Nat.le_of_ble_eq_true rfl) ⟨by show _ ≤ _; first | (dsimp only; omega) | omega, by show _ ≤ _; first | (dsimp only; omega) | omega⟩ dL_isMachine_326 (fun X hX => nx_of (r2C_0 hm (by omega) (by omega)) hX) ?_
              rintro _ _ ⟨-, rfl, rfl⟩
              have hF3 : FRS S (daM T2 nc (ix (nI m))) := FRS_t hF2 FRS_da
              have w2b := w2 T2 hF2
              generalize daM T2 nc (ix (nI m)) = T3 at hF3 w2b ⊢
              refine g_top ((vv)) (w2b) ?_
              refine g_iload hB 16 dL_isMachine_329 rfl ?_
              refine g_icmp_ne hB 393 dL_isMachine_331 (by decide) (fun c_331 => ?_) (fun c_331 => ?_)
              · exact absurd rfl c_331
              · refine g_aload_n hB 0 dL_isMachine_334 rfl rfl ?_
                refine g_iload_n hB 1 dL_isMachine_335 rfl rfl ?_
                refine g_iload hB 11 dL_isMachine_336 rfl ?_
                refine g_callNVI hB (c_X5_runs hl _ ng nm nc t pa (INV_fr h hF3).1 _ _) k_L_90 rfl yk_X5_runs ⟨Nat.le_of_ble_eq_true rfl, Nat.le_of_ble_eq_true rfl⟩ ⟨(by decide), _, _, _, rfl, rfl, rfl⟩ rfl (Nat.le_of_ble_eq_true rfl) ⟨by show _ ≤ _; first | (dsimp only; omega) | omega, by show _ ≤ _; first | (dsimp only; omega) | omega⟩ dL_isMachine_338 (fun X hX => nx_of (r2C_0 hm (by omega) (by omega)) hX) ?_
                rintro _ _ ⟨-, rfl, rfl⟩
                have hF4 : FRS S (ruM T3 nc (ix (nI m))) := FRS_t hF3 FRS_ru
                have w3b := (w3 T3 hF3).1
                generalize ruM T3 nc (ix (nI m)) = T4 at hF4 w3b ⊢
                refine g_top ((-1)) (w3b.trans z4) ?_
                refine g_iload hB 15 dL_isMachine_341 rfl ?_
                refine b_if_eq hB true 350 dL_isMachine_343 (by decide) (fun z => by cases z) (fun _ => ?_)
                refine g_iconst hB (-1) dL_isMachine_346 rfl ?_
                refine g_goto hB 362 dL_isMachine_347 (by decide) ?_
                refine g_icmp_ne hB 393 dL_isMachine_362 (by decide) (fun c_362 => ?_) (fun c_362 => ?_)
                · exact absurd rfl c_362
                · refine g_aload_n hB 0 dL_isMachine_365 rfl rfl ?_
                  refine g_iload_n hB 1 dL_isMachine_366 rfl rfl ?_
                  refine g_iload hB 11 dL_isMachine_367 rfl ?_
                  refine g_callNVI hB (c_X5_layerOf hl _ ng nm nc t pa (INV_fr h hF4).1 _ _) k_L_93 rfl yk_X5_layerOf ⟨Nat.le_of_ble_eq_true rfl, Nat.le_of_ble_eq_true rfl⟩ ⟨(by decide), _, _, _, rfl, rfl, rfl⟩ rfl (Nat.le_of_ble_eq_true rfl) ⟨by show _ ≤ _; first | (dsimp only; omega) | omega, by show _ ≤ _; first | (dsimp only; omega) | omega⟩ dL_isMachine_369 (fun X hX => nx_of (r2C_0 hm (by omega) (by omega)) hX) ?_
                  rintro _ _ ⟨-, rfl, rfl⟩
                  have hF5 : FRS S (ruM T4 nc (ix (nI m))) := FRS_t hF4 FRS_ru
                  have w3c := (w3 T4 hF4).2
                  generalize ruM T4 nc (ix (nI m)) = T5 at hF5 w3c ⊢
                  refine g_top ((-1)) (w3c.trans z5) ?_
                  refine g_iload hB 15 dL_isMachine_372 rfl ?_
                  refine b_if_eq hB true 381 dL_isMachine_374 (by decide) (fun z => by cases z) (fun _ => ?_)
                  refine g_iconst hB (-1) dL_isMachine_377 rfl ?_
                  refine g_goto hB 386 dL_isMachine_378 (by decide) ?_
                  refine g_icmp_ne hB 393 dL_isMachine_386 (by decide) (fun c_386 => ?_) (fun c_386 => ?_)
                  · exact absurd rfl c_386
                  · refine g_iconst hB (nI 1) dL_isMachine_389 rfl ?_
                    refine g_goto hB 394 dL_isMachine_390 (by decide) ?_
                    refine g_istore hB 10 dL_isMachine_394 (by decide) ?_
                    refine g_iinc hB (nI (k + 1)) dL_isMachine_396 rfl (nI_1 _) (by decide) ?_
                    refine g_goto hB 171 dL_isMachine_399 (by decide) ?_
                    refine g_widen (k := 62 + 8 * (k + 1)) (n := 372 + 48 * (k + 1)) (by show _ ≤ _; first | (dsimp only; omega) | omega) (by show _ ≤ _; first | (dsimp only; omega) | omega) ?_
                    exact g_sub _ rfl (ih (k + 1) T5 (by omega) (by omega) hF5)
          | false =>
            obtain ⟨i1, c1, w, hi1, hc1, hw1, z4, z5, z6, z7⟩ := z3 rfl
            subst z4
            refine g_aload_n hB 0 dL_isMachine_310 rfl rfl ?_
            refine g_iload_n hB 1 dL_isMachine_311 rfl rfl ?_
            refine g_iload hB 11 dL_isMachine_312 rfl ?_
            refine g_callNVI hB (c_X5_due hl _ ng nm nc t pa hIT.1 _ _) k_L_84 rfl yk_X5_due ⟨Nat.le_of_ble_eq_true rfl, Nat.le_of_ble_eq_true rfl⟩ ⟨(by decide), _, _, _, rfl, rfl, rfl⟩ rfl (Nat.le_of_ble_eq_true rfl) ⟨by show _ ≤ _; first | (dsimp only; omega) | omega, by show _ ≤ _; first | (dsimp only; omega) | omega⟩ dL_isMachine_314 (fun X hX => nx_of (r2C_0 hm (by omega) (by omega)) hX) ?_
            rintro _ _ ⟨-, rfl, rfl⟩
            generalize duM T nc (ix (nI m)) = T2 at hF2 w1 ⊢
            refine g_top ((vv)) (w1) ?_
            refine g_iload hB 16 dL_isMachine_317 rfl ?_
            refine g_icmp_ne hB 393 dL_isMachine_319 (by decide) (fun c_319 => ?_) (fun c_319 => ?_)
            · exact absurd rfl c_319
            · refine g_aload_n hB 0 dL_isMachine_322 rfl rfl ?_
              refine g_iload_n hB 1 dL_isMachine_323 rfl rfl ?_
              refine g_iload hB 11 dL_isMachine_324 rfl ?_
              refine g_callNVI hB (c_X5_dueAnew hl _ ng nm nc t pa (INV_fr h hF2).1 (hau T2 hF2) _ _) k_L_87 rfl yk_X5_dueAnew ⟨Nat.le_of_ble_eq_true rfl, Nat.le_of_ble_eq_true rfl⟩ ⟨(by decide), _, _, _, rfl, rfl, rfl⟩ rfl (Nat.le_of_ble_eq_true rfl) ⟨by show _ ≤ _; first | (dsimp only; omega) | omega, by show _ ≤ _; first | (dsimp only; omega) | omega⟩ dL_isMachine_326 (fun X hX => nx_of (r2C_0 hm (by omega) (by omega)) hX) ?_
              rintro _ _ ⟨-, rfl, rfl⟩
              have hF3 : FRS S (daM T2 nc (ix (nI m))) := FRS_t hF2 FRS_da
              have w2b := w2 T2 hF2
              generalize daM T2 nc (ix (nI m)) = T3 at hF3 w2b ⊢
              refine g_top ((vv)) (w2b) ?_
              refine g_iload hB 16 dL_isMachine_329 rfl ?_
              refine g_icmp_ne hB 393 dL_isMachine_331 (by decide) (fun c_331 => ?_) (fun c_331 => ?_)
              · exact absurd rfl c_331
              · refine g_aload_n hB 0 dL_isMachine_334 rfl rfl ?_
                refine g_iload_n hB 1 dL_isMachine_335 rfl rfl ?_
                refine g_iload hB 11 dL_isMachine_336 rfl ?_
                refine g_callNVI hB (c_X5_runs hl _ ng nm nc t pa (INV_fr h hF3).1 _ _) k_L_90 rfl yk_X5_runs ⟨Nat.le_of_ble_eq_true rfl, Nat.le_of_ble_eq_true rfl⟩ ⟨(by decide), _, _, _, rfl, rfl, rfl⟩ rfl (Nat.le_of_ble_eq_true rfl) ⟨by show _ ≤ _; first | (dsimp only; omega) | omega, by show _ ≤ _; first | (dsimp only; omega) | omega⟩ dL_isMachine_338 (fun X hX => nx_of (r2C_0 hm (by omega) (by omega)) hX) ?_
                rintro _ _ ⟨-, rfl, rfl⟩
                have hF4 : FRS S (ruM T3 nc (ix (nI m))) := FRS_t hF3 FRS_ru
                have w3b := (w3 T3 hF3).1
                generalize ruM T3 nc (ix (nI m)) = T4 at hF4 w3b ⊢
                refine g_top (nI (w)) (w3b.trans z5) ?_
                refine g_iload hB 15 dL_isMachine_341 rfl ?_
                refine b_if_eq hB false 350 dL_isMachine_343 (by decide) (fun _ => ?_) (fun z => by cases z)
                refine g_aload hB 5 dL_isMachine_350 rfl ?_
                refine g_iconst hB (nI 5) dL_isMachine_352 rfl ?_
                refine g_iload hB 13 dL_isMachine_353 rfl ?_
                refine g_bipush hB (nI 100) dL_isMachine_355 rfl ?_
                refine g_irem hB (by decide) dL_isMachine_357 ?_
                refine g_top (nI (c1)) (rm100 hi1 (by omega)) ?_
                refine g_imul hB dL_isMachine_358 ?_
                refine g_top (nI (5 * c1)) (pk_mul _ _) ?_
                refine g_iconst hB (nI 2) dL_isMachine_359 rfl ?_
                refine g_iadd hB dL_isMachine_360 ?_
                refine g_top (nI (5 * c1 + 2)) (nI_add _ _) ?_
                refine g_iald hB 22 3 (5 * c1 + 2) (n := 60) (by decide) rfl (by first | assumption | omega) (Nat.le_of_ble_eq_true rfl) dL_isMachine_361 ?_
                refine g_top (nI (w)) ((q22 T4 hF4 _).trans z7) ?_
                refine n_icmp_ne hB w w 393 dL_isMachine_362 (by decide) (by omega) (by omega) (fun c_362 => ?_) (fun c_362 => ?_)
                · have d_362 : decide (w = w) = false := decide_eq_false c_362
                  exact absurd rfl c_362
                · have d_362 : decide (w = w) = true := decide_eq_true c_362
                  refine g_aload_n hB 0 dL_isMachine_365 rfl rfl ?_
                  refine g_iload_n hB 1 dL_isMachine_366 rfl rfl ?_
                  refine g_iload hB 11 dL_isMachine_367 rfl ?_
                  refine g_callNVI hB (c_X5_layerOf hl _ ng nm nc t pa (INV_fr h hF4).1 _ _) k_L_93 rfl yk_X5_layerOf ⟨Nat.le_of_ble_eq_true rfl, Nat.le_of_ble_eq_true rfl⟩ ⟨(by decide), _, _, _, rfl, rfl, rfl⟩ rfl (Nat.le_of_ble_eq_true rfl) ⟨by show _ ≤ _; first | (dsimp only; omega) | omega, by show _ ≤ _; first | (dsimp only; omega) | omega⟩ dL_isMachine_369 (fun X hX => nx_of (r2C_0 hm (by omega) (by omega)) hX) ?_
                  rintro _ _ ⟨-, rfl, rfl⟩
                  have hF5 : FRS S (ruM T4 nc (ix (nI m))) := FRS_t hF4 FRS_ru
                  have w3c := (w3 T4 hF4).2
                  generalize ruM T4 nc (ix (nI m)) = T5 at hF5 w3c ⊢
                  refine g_top (nI (i1)) (w3c.trans z6) ?_
                  refine g_iload hB 15 dL_isMachine_372 rfl ?_
                  refine b_if_eq hB false 381 dL_isMachine_374 (by decide) (fun _ => ?_) (fun z => by cases z)
                  refine g_iload hB 13 dL_isMachine_381 rfl ?_
                  refine g_bipush hB (nI 100) dL_isMachine_383 rfl ?_
                  refine g_idiv hB (by decide) dL_isMachine_385 ?_
                  refine g_top (nI (i1)) (dv100 hi1 (by omega)) ?_
                  refine n_icmp_ne hB i1 i1 393 dL_isMachine_386 (by decide) (by omega) (by omega) (fun c_386 => ?_) (fun c_386 => ?_)
                  · have d_386 : decide (i1 = i1) = false := decide_eq_false c_386
                    exact absurd rfl c_386
                  · have d_386 : decide (i1 = i1) = true := decide_eq_true c_386
                    refine g_iconst hB (nI 1) dL_isMachine_389 rfl ?_
                    refine g_goto hB 394 dL_isMachine_390 (by decide) ?_
                    refine g_istore hB 10 dL_isMachine_394 (by decide) ?_
                    refine g_iinc hB (nI (k + 1)) dL_isMachine_396 rfl (nI_1 _) (by decide) ?_
                    refine g_goto hB 171 dL_isMachine_399 (by decide) ?_
                    refine g_widen (k := 62 + 8 * (k + 1)) (n := 372 + 48 * (k + 1)) (by show _ ≤ _; first | (dsimp only; omega) | omega) (by show _ ≤ _; first | (dsimp only; omega) | omega) ?_
                    exact g_sub _ rfl (ih (k + 1) T5 (by omega) (by omega) hF5)
        -- the value that is due, and the hidden keys
        have stC : ∀ (v13 : Int32) (nn : Bool), (nn = true → runV S nc m (grp S m) k = -1 ∧ runL S nc m (grp S m) k = -1) → (nn = false → ∃ i c w, i < 5 ∧ c < nc ∧ w < 102 ∧ v13 = nI (100 * i + c) ∧ runV S nc m (grp S m) k = nI w ∧ runL S nc m (grp S m) k = nI i ∧ S 22 3 (5 * c + 2) = nI w) → G p9 l e9 { frames := 8, cells := 200, slots := 1200, locals := 137 } s9 m9 a9 b9 me9 c9 D ad A9 17 (MQ b9 (va_Qi (fun r E' => ∃ T, r = bI true ∧ E' = SH ad ca T ∧ FRS S T) (fun E' t => WW D ad CNT A9 E' t.heap) A9) a9 s9 200 1200 A9) (62 + 8 * k) (372 + 48 * k) CNT (SH ad ca (T)) 264 [(0, .ref (ad 0 0)), (1, .int (nI m)), (2, .ref (ad 22 0)), (3, .ref (ad 22 1)), (4, .ref (ad 22 2)), (5, .ref (ad 22 3)), (6, .ref (ad 22 6)), (7, .int (nI (cntB (fun i => mLag S nc m ((lay (S 18 2) (grp S m)).getD i 0)) (lay (S 18 2) (grp S m)).length))), (8, .int (orN (fun k => rHid S nc m (grp S m) false k) k)), (9, .int (bI (mHalt S m))), (10, .int (nI 1)), (11, .int (nI k)), (12, .int (dcV T nc m false k)), (13, .int (v13)), (14, .int (bI (rHid T nc m (grp T m) false k))), (15, .int (bI (nn)))] [] := by
          intro v13 nn z2 z3
          have hd : dueV S nc m (grp S m) k = bif rHid T nc m (grp T m) false k then -1 else (rLook T nc m (grp T m) false k).1 := by rw [← eg, ← dueV_18 hT18]; rfl
          have ho : orN (fun k => rHid S nc m (grp S m) false k) (k + 1) = orN (fun k => rHid S nc m (grp S m) false k) k ||| (bif rHid T nc m (grp T m) false k then nI 1 <<< (nI k &&& 31) else nI 0) := by rw [hid_18 hT18, eg]; rfl
          have e22 : ∀ j, T 22 3 j = S 22 3 j := fun j => congrFun (hF 22 3 (by decide) (by decide) (by decide) (by decide)) j
          rcases dcV_T hLT hRT hm hk false with ⟨d1, d2⟩ | ⟨i1, c1, w1, hi1, hc1, hw1, d1, d2, d3⟩
          · rw [d1]
            cases hb1 : rHid T nc m (grp T m) false k with
            | true =>
              rw [hb1] at hd ho
              refine g_iload hB 12 dL_isMachine_264 rfl ?_
              refine g_if_lt hB 274 dL_isMachine_266 (by decide) (fun _ => ?_) (fun z => absurd (by decide) z)
              refine g_iconst hB (-1) dL_isMachine_274 rfl ?_
              refine g_goto hB 290 dL_isMachine_275 (by decide) ?_
              refine g_istore hB 16 dL_isMachine_290 (by decide) ?_
              refine g_iload hB 8 dL_isMachine_292 rfl ?_
              refine g_iload hB 14 dL_isMachine_294 rfl ?_
              refine b_if_eq hB true 306 dL_isMachine_296 (by decide) (fun z => by cases z) (fun _ => ?_)
              refine g_iconst hB (nI 1) dL_isMachine_299 rfl ?_
              refine g_iload hB 11 dL_isMachine_300 rfl ?_
              refine g_ishl hB dL_isMachine_302 ?_
              refine g_goto hB 307 dL_isMachine_303 (by decide) ?_
              refine g_ior hB dL_isMachine_307 ?_
              refine g_top ((orN (fun k => rHid S nc m (grp S m) false k) (k + 1))) (ho.symm) ?_
              refine g_istore hB 8 dL_isMachine_308 (by decide) ?_
              exact g_sub _ rfl (stD (-1) v13 (-1) true nn hd.symm z2 z3)
            | false =>
              rw [hb1, d2] at hd
              rw [hb1] at ho
              refine g_iload hB 12 dL_isMachine_264 rfl ?_
              refine g_if_lt hB 274 dL_isMachine_266 (by decide) (fun _ => ?_) (fun z => absurd (by decide) z)
              refine g_iconst hB (-1) dL_isMachine_274 rfl ?_
              refine g_goto hB 290 dL_isMachine_275 (by decide) ?_
              refine g_istore hB 16 dL_isMachine_290 (by decide) ?_
              refine g_iload hB 8 dL_isMachine_292 rfl ?_
              refine g_iload hB 14 dL_isMachine_294 rfl ?_
              refine b_if_eq hB false 306 dL_isMachine_296 (by decide) (fun _ => ?_) (fun z => by cases z)
              refine g_iconst hB (nI 0) dL_isMachine_306 rfl ?_
              refine g_ior hB dL_isMachine_307 ?_
              refine g_top ((orN (fun k => rHid S nc m (grp S m) false k) (k + 1))) (ho.symm) ?_
              refine g_istore hB 8 dL_isMachine_308 (by decide) ?_
              exact g_sub _ rfl (stD (-1) v13 (-1) false nn hd.symm z2 z3)
          · rw [d1]
            cases hb1 : rHid T nc m (grp T m) false k with
            | true =>
              rw [hb1] at hd ho
              refine g_iload hB 12 dL_isMachine_264 rfl ?_
              refine n_if_lt (tgt := 274) hB _ dL_isMachine_266 (by decide) (by omega) ?_
              refine g_iload hB 14 dL_isMachine_269 rfl ?_
              refine b_if_eq hB true 278 dL_isMachine_271 (by decide) (fun z => by cases z) (fun _ => ?_)
              refine g_iconst hB (-1) dL_isMachine_274 rfl ?_
              refine g_goto hB 290 dL_isMachine_275 (by decide) ?_
              refine g_istore hB 16 dL_isMachine_290 (by decide) ?_
              refine g_iload hB 8 dL_isMachine_292 rfl ?_
              refine g_iload hB 14 dL_isMachine_294 rfl ?_
              refine b_if_eq hB true 306 dL_isMachine_296 (by decide) (fun z => by cases z) (fun _ => ?_)
              refine g_iconst hB (nI 1) dL_isMachine_299 rfl ?_
              refine g_iload hB 11 dL_isMachine_300 rfl ?_
              refine g_ishl hB dL_isMachine_302 ?_
              refine g_goto hB 307 dL_isMachine_303 (by decide) ?_
              refine g_ior hB dL_isMachine_307 ?_
              refine g_top ((orN (fun k => rHid S nc m (grp S m) false k) (k + 1))) (ho.symm) ?_
              refine g_istore hB 8 dL_isMachine_308 (by decide) ?_
              exact g_sub _ rfl (stD (nI (100 * i1 + c1)) v13 (-1) true nn hd.symm z2 z3)
            | false =>
              rw [hb1, d2] at hd
              rw [hb1] at ho
              refine g_iload hB 12 dL_isMachine_264 rfl ?_
              refine n_if_lt (tgt := 274) hB _ dL_isMachine_266 (by decide) (by omega) ?_
              refine g_iload hB 14 dL_isMachine_269 rfl ?_
              refine b_if_eq hB false 278 dL_isMachine_271 (by decide) (fun _ => ?_) (fun z => by cases z)
              refine g_aload hB 5 dL_isMachine_278 rfl ?_
              refine g_iconst hB (nI 5) dL_isMachine_280 rfl ?_
              refine g_iload hB 12 dL_isMachine_281 rfl ?_
              refine g_bipush hB (nI 100) dL_isMachine_283 rfl ?_
              refine g_irem hB (by decide) dL_isMachine_285 ?_
              refine g_top (nI (c1)) (rm100 hi1 (by omega)) ?_
              refine g_imul hB dL_isMachine_286 ?_
              refine g_top (nI (5 * c1)) (pk_mul _ _) ?_
              refine g_iconst hB (nI 2) dL_isMachine_287 rfl ?_
              refine g_iadd hB dL_isMachine_288 ?_
              refine g_top (nI (5 * c1 + 2)) (nI_add _ _) ?_
              refine g_iald hB 22 3 (5 * c1 + 2) (n := 60) (by decide) rfl (by first | assumption | omega) (Nat.le_of_ble_eq_true rfl) dL_isMachine_289 ?_
              refine g_top (nI (w1)) (d3) ?_
              refine g_istore hB 16 dL_isMachine_290 (by decide) ?_
              refine g_iload hB 8 dL_isMachine_292 rfl ?_
              refine g_iload hB 14 dL_isMachine_294 rfl ?_
              refine b_if_eq hB false 306 dL_isMachine_296 (by decide) (fun _ => ?_) (fun z => by cases z)
              refine g_iconst hB (nI 0) dL_isMachine_306 rfl ?_
              refine g_ior hB dL_isMachine_307 ?_
              refine g_top ((orN (fun k => rHid S nc m (grp S m) false k) (k + 1))) (ho.symm) ?_
              refine g_istore hB 8 dL_isMachine_308 (by decide) ?_
              exact g_sub _ rfl (stD (nI (100 * i1 + c1)) v13 (nI w1) false nn hd.symm z2 z3)
        have hrl : runV S nc m (grp S m) k = (bif mHalt S m then -1 else bif rHid T nc m (grp T m) true k then -1 else (rLook T nc m (grp T m) true k).1) ∧ runL S nc m (grp S m) k = (bif mHalt S m then -1 else bif rHid T nc m (grp T m) true k then -1 else (rLook T nc m (grp T m) true k).2.1) := by
          rw [← eg, ← runV_18 hT18, ← runL_18 hT18, ← halt_18 hT18]
          exact ⟨rfl, rfl⟩

        rcases dcV_T hLT hRT hm hk true with ⟨d1, d2⟩ | ⟨i1, c1, w1, hi1, hc1, hw1, d1, d2, d3⟩
        · have hnn : runV S nc m (grp S m) k = -1 ∧ runL S nc m (grp S m) k = -1 := by
            rw [hrl.1, hrl.2, d2]
            cases mHalt S m <;> cases rHid T nc m (grp T m) true k <;> exact ⟨rfl, rfl⟩
          refine g_iload hB 11 dL_isMachine_171 rfl ?_
          refine g_iconst hB (nI 4) dL_isMachine_173 rfl ?_
          refine n_icmp_ge hB k 4 402 dL_isMachine_174 (by decide) (by omega) (by omega) (fun c_174 => ?_) (fun c_174 => ?_)
          · exact absurd c_174 (by omega)
          · refine g_iload hB 10 dL_isMachine_177 rfl ?_
            refine g_if_eq hB 402 dL_isMachine_179 (by decide) (fun z => absurd z (by decide)) (fun _ => ?_)
            refine g_iload_n hB 1 dL_isMachine_182 rfl rfl ?_
            refine g_iload hB 11 dL_isMachine_183 rfl ?_
            refine g_iconst hB (nI 0) dL_isMachine_185 rfl ?_
            refine g_aload_n hB 2 dL_isMachine_186 rfl rfl ?_
            refine g_aload_n hB 3 dL_isMachine_187 rfl rfl ?_
            refine g_aload hB 4 dL_isMachine_188 rfl ?_
            refine g_aload hB 5 dL_isMachine_190 rfl ?_
            refine g_callSI hB (c_L_decides _ ng nm nc t pa rk hLT hRT m hm k hk false) k_L_57 yk_L_decides ⟨Nat.le_of_ble_eq_true rfl, Nat.le_of_ble_eq_true rfl⟩ rfl (Nat.le_of_ble_eq_true rfl) ⟨by show _ ≤ _; first | (dsimp only; omega) | omega, by show _ ≤ _; first | (dsimp only; omega) | omega⟩ dL_isMachine_192 ?_
            rintro _ _ ⟨rfl, rfl⟩
            refine g_istore hB 12 dL_isMachine_195 (by decide) ?_
            refine g_iload_n hB 1 dL_isMachine_197 rfl rfl ?_
            refine g_iload hB 11 dL_isMachine_198 rfl ?_
            refine g_iconst hB (nI 1) dL_isMachine_200 rfl ?_
            refine g_aload_n hB 2 dL_isMachine_201 rfl rfl ?_
            refine g_aload_n hB 3 dL_isMachine_202 rfl rfl ?_
            refine g_aload hB 4 dL_isMachine_203 rfl ?_
            refine g_aload hB 5 dL_isMachine_205 rfl ?_
            refine g_callSI hB (c_L_decides _ ng nm nc t pa rk hLT hRT m hm k hk true) k_L_57 yk_L_decides ⟨Nat.le_of_ble_eq_true rfl, Nat.le_of_ble_eq_true rfl⟩ rfl (Nat.le_of_ble_eq_true rfl) ⟨by show _ ≤ _; first | (dsimp only; omega) | omega, by show _ ≤ _; first | (dsimp only; omega) | omega⟩ dL_isMachine_207 ?_
            rintro _ _ ⟨rfl, rfl⟩
            refine g_top ((-1)) (d1) ?_
            refine g_istore hB 13 dL_isMachine_210 (by decide) ?_
            refine g_iload_n hB 1 dL_isMachine_212 rfl rfl ?_
            refine g_iload hB 11 dL_isMachine_213 rfl ?_
            refine g_iconst hB (nI 0) dL_isMachine_215 rfl ?_
            refine g_aload_n hB 2 dL_isMachine_216 rfl rfl ?_
            refine g_aload_n hB 3 dL_isMachine_217 rfl rfl ?_
            refine g_aload hB 4 dL_isMachine_218 rfl ?_
            refine g_aload hB 5 dL_isMachine_220 rfl ?_
            refine g_aload hB 6 dL_isMachine_222 rfl ?_
            refine g_callSI hB (c_L_hides _ ng nm nc t pa rk hLT hRT m hm k hk false) k_L_80 yk_L_hides ⟨Nat.le_of_ble_eq_true rfl, Nat.le_of_ble_eq_true rfl⟩ rfl (Nat.le_of_ble_eq_true rfl) ⟨by show _ ≤ _; first | (dsimp only; omega) | omega, by show _ ≤ _; first | (dsimp only; omega) | omega⟩ dL_isMachine_224 ?_
            rintro _ _ ⟨rfl, rfl⟩
            refine g_istore hB 14 dL_isMachine_227 (by decide) ?_
            refine g_iload hB 9 dL_isMachine_229 rfl ?_
            refine b_if_ne hB (mHalt S m) 257 dL_isMachine_231 (by decide) (fun c_231 => ?_) (fun c_231 => ?_)
            · refine g_iconst hB (nI 1) dL_isMachine_257 rfl ?_
              refine g_goto hB 262 dL_isMachine_258 (by decide) ?_
              refine g_istore hB 15 dL_isMachine_262 (by decide) ?_
              refine g_widen (k := 62 + 8 * k) (n := 372 + 48 * k) (Nat.le_refl _) (Nat.le_refl _) ?_
              exact g_sub [(0, .ref (ad 0 0)), (1, .int (nI m)), (2, .ref (ad 22 0)), (3, .ref (ad 22 1)), (4, .ref (ad 22 2)), (5, .ref (ad 22 3)), (6, .ref (ad 22 6)), (7, .int (nI (cntB (fun i => mLag S nc m ((lay (S 18 2) (grp S m)).getD i 0)) (lay (S 18 2) (grp S m)).length))), (8, .int (orN (fun k => rHid S nc m (grp S m) false k) k)), (9, .int (bI (mHalt S m))), (10, .int (nI 1)), (11, .int (nI k)), (12, .int (dcV T nc m false k)), (13, .int (-1)), (14, .int (bI (rHid T nc m (grp T m) false k))), (15, .int (bI (true)))] rfl (stC _ true (fun _ => hnn) (fun z => by cases z))
            · refine g_iload hB 13 dL_isMachine_234 rfl ?_
              refine g_if_lt hB 257 dL_isMachine_236 (by decide) (fun _ => ?_) (fun z => absurd (by decide) z)
              refine g_iconst hB (nI 1) dL_isMachine_257 rfl ?_
              refine g_goto hB 262 dL_isMachine_258 (by decide) ?_
              refine g_istore hB 15 dL_isMachine_262 (by decide) ?_
              refine g_widen (k := 62 + 8 * k) (n := 372 + 48 * k) (Nat.le_refl _) (Nat.le_refl _) ?_
              exact g_sub [(0, .ref (ad 0 0)), (1, .int (nI m)), (2, .ref (ad 22 0)), (3, .ref (ad 22 1)), (4, .ref (ad 22 2)), (5, .ref (ad 22 3)), (6, .ref (ad 22 6)), (7, .int (nI (cntB (fun i => mLag S nc m ((lay (S 18 2) (grp S m)).getD i 0)) (lay (S 18 2) (grp S m)).length))), (8, .int (orN (fun k => rHid S nc m (grp S m) false k) k)), (9, .int (bI (mHalt S m))), (10, .int (nI 1)), (11, .int (nI k)), (12, .int (dcV T nc m false k)), (13, .int (-1)), (14, .int (bI (rHid T nc m (grp T m) false k))), (15, .int (bI (true)))] rfl (stC _ true (fun _ => hnn) (fun z => by cases z))
        · have e22 : S 22 3 (5 * c1 + 2) = nI w1 := (congrFun (hF 22 3 (by decide) (by decide) (by decide) (by decide)) _).symm.trans d3
          have hsome : mHalt S m = false → rHid T nc m (grp T m) true k = false → ∃ i c w, i < 5 ∧ c < nc ∧ w < 102 ∧ nI (100 * i1 + c1) = nI (100 * i + c) ∧ runV S nc m (grp S m) k = nI w ∧ runL S nc m (grp S m) k = nI i ∧ S 22 3 (5 * c + 2) = nI w := fun q1 q2 => by
            rw [hrl.1, hrl.2, q1, q2, d2]
            exact ⟨i1, c1, w1, hi1, hc1, hw1, rfl, rfl, rfl, e22⟩
          have hnn : (mHalt S m = true ∨ rHid T nc m (grp T m) true k = true) → runV S nc m (grp S m) k = -1 ∧ runL S nc m (grp S m) k = -1 := fun q => by
            rw [hrl.1, hrl.2]
            rcases q with q | q
            · rw [q]; exact ⟨rfl, rfl⟩
            · rw [q]; cases mHalt S m <;> exact ⟨rfl, rfl⟩
          refine g_iload hB 11 dL_isMachine_171 rfl ?_
          refine g_iconst hB (nI 4) dL_isMachine_173 rfl ?_
          refine n_icmp_ge hB k 4 402 dL_isMachine_174 (by decide) (by omega) (by omega) (fun c_174 => ?_) (fun c_174 => ?_)
          · exact absurd c_174 (by omega)
          · refine g_iload hB 10 dL_isMachine_177 rfl ?_
            refine g_if_eq hB 402 dL_isMachine_179 (by decide) (fun z => absurd z (by decide)) (fun _ => ?_)
            refine g_iload_n hB 1 dL_isMachine_182 rfl rfl ?_
            refine g_iload hB 11 dL_isMachine_183 rfl ?_
            refine g_iconst hB (nI 0) dL_isMachine_185 rfl ?_
            refine g_aload_n hB 2 dL_isMachine_186 rfl rfl ?_
            refine g_aload_n hB 3 dL_isMachine_187 rfl rfl ?_
            refine g_aload hB 4 dL_isMachine_188 rfl ?_
            refine g_aload hB 5 dL_isMachine_190 rfl ?_
            refine g_callSI hB (c_L_decides _ ng nm nc t pa rk hLT hRT m hm k hk false) k_L_57 yk_L_decides ⟨Nat.le_of_ble_eq_true rfl, Nat.le_of_ble_eq_true rfl⟩ rfl (Nat.le_of_ble_eq_true rfl) ⟨by show _ ≤ _; first | (dsimp only; omega) | omega, by show _ ≤ _; first | (dsimp only; omega) | omega⟩ dL_isMachine_192 ?_
            rintro _ _ ⟨rfl, rfl⟩
            refine g_istore hB 12 dL_isMachine_195 (by decide) ?_
            refine g_iload_n hB 1 dL_isMachine_197 rfl rfl ?_
            refine g_iload hB 11 dL_isMachine_198 rfl ?_
            refine g_iconst hB (nI 1) dL_isMachine_200 rfl ?_
            refine g_aload_n hB 2 dL_isMachine_201 rfl rfl ?_
            refine g_aload_n hB 3 dL_isMachine_202 rfl rfl ?_
            refine g_aload hB 4 dL_isMachine_203 rfl ?_
            refine g_aload hB 5 dL_isMachine_205 rfl ?_
            refine g_callSI hB (c_L_decides _ ng nm nc t pa rk hLT hRT m hm k hk true) k_L_57 yk_L_decides ⟨Nat.le_of_ble_eq_true rfl, Nat.le_of_ble_eq_true rfl⟩ rfl (Nat.le_of_ble_eq_true rfl) ⟨by show _ ≤ _; first | (dsimp only; omega) | omega, by show _ ≤ _; first | (dsimp only; omega) | omega⟩ dL_isMachine_207 ?_
            rintro _ _ ⟨rfl, rfl⟩
            refine g_top (nI (100 * i1 + c1)) (d1) ?_
            refine g_istore hB 13 dL_isMachine_210 (by decide) ?_
            refine g_iload_n hB 1 dL_isMachine_212 rfl rfl ?_
            refine g_iload hB 11 dL_isMachine_213 rfl ?_
            refine g_iconst hB (nI 0) dL_isMachine_215 rfl ?_
            refine g_aload_n hB 2 dL_isMachine_216 rfl rfl ?_
            refine g_aload_n hB 3 dL_isMachine_217 rfl rfl ?_
            refine g_aload hB 4 dL_isMachine_218 rfl ?_
            refine g_aload hB 5 dL_isMachine_220 rfl ?_
            refine g_aload hB 6 dL_isMachine_222 rfl ?_
            refine g_callSI hB (c_L_hides _ ng nm nc t pa rk hLT hRT m hm k hk false) k_L_80 yk_L_hides ⟨Nat.le_of_ble_eq_true rfl, Nat.le_of_ble_eq_true rfl⟩ rfl (Nat.le_of_ble_eq_true rfl) ⟨by show _ ≤ _; first | (dsimp only; omega) | omega, by show _ ≤ _; first | (dsimp only; omega) | omega⟩ dL_isMachine_224 ?_
            rintro _ _ ⟨rfl, rfl⟩
            refine g_istore hB 14 dL_isMachine_227 (by decide) ?_
            refine g_iload hB 9 dL_isMachine_229 rfl ?_
            refine b_if_ne hB (mHalt S m) 257 dL_isMachine_231 (by decide) (fun c_231 => ?_) (fun c_231 => ?_)
            · replace hnn := hnn (Or.inl c_231)
              refine g_iconst hB (nI 1) dL_isMachine_257 rfl ?_
              refine g_goto hB 262 dL_isMachine_258 (by decide) ?_
              refine g_istore hB 15 dL_isMachine_262 (by decide) ?_
              refine g_widen (k := 62 + 8 * k) (n := 372 + 48 * k) (Nat.le_refl _) (Nat.le_refl _) ?_
              exact g_sub [(0, .ref (ad 0 0)), (1, .int (nI m)), (2, .ref (ad 22 0)), (3, .ref (ad 22 1)), (4, .ref (ad 22 2)), (5, .ref (ad 22 3)), (6, .ref (ad 22 6)), (7, .int (nI (cntB (fun i => mLag S nc m ((lay (S 18 2) (grp S m)).getD i 0)) (lay (S 18 2) (grp S m)).length))), (8, .int (orN (fun k => rHid S nc m (grp S m) false k) k)), (9, .int (bI (mHalt S m))), (10, .int (nI 1)), (11, .int (nI k)), (12, .int (dcV T nc m false k)), (13, .int (nI (100 * i1 + c1))), (14, .int (bI (rHid T nc m (grp T m) false k))), (15, .int (bI (true)))] rfl (stC _ true (fun _ => hnn) (fun z => by cases z))
            · refine g_iload hB 13 dL_isMachine_234 rfl ?_
              refine n_if_lt (tgt := 257) hB _ dL_isMachine_236 (by decide) (by omega) ?_
              refine g_iload_n hB 1 dL_isMachine_239 rfl rfl ?_
              refine g_iload hB 11 dL_isMachine_240 rfl ?_
              refine g_iconst hB (nI 1) dL_isMachine_242 rfl ?_
              refine g_aload_n hB 2 dL_isMachine_243 rfl rfl ?_
              refine g_aload_n hB 3 dL_isMachine_244 rfl rfl ?_
              refine g_aload hB 4 dL_isMachine_245 rfl ?_
              refine g_aload hB 5 dL_isMachine_247 rfl ?_
              refine g_aload hB 6 dL_isMachine_249 rfl ?_
              refine g_callSI hB (c_L_hides _ ng nm nc t pa rk hLT hRT m hm k hk true) k_L_80 yk_L_hides ⟨Nat.le_of_ble_eq_true rfl, Nat.le_of_ble_eq_true rfl⟩ rfl (Nat.le_of_ble_eq_true rfl) ⟨by show _ ≤ _; first | (dsimp only; omega) | omega, by show _ ≤ _; first | (dsimp only; omega) | omega⟩ dL_isMachine_251 ?_
              rintro _ _ ⟨rfl, rfl⟩
              refine b_if_eq hB (rHid T nc m (grp T m) true k) 261 dL_isMachine_254 (by decide) (fun c_254 => ?_) (fun c_254 => ?_)
              · replace hsome := hsome c_231 c_254
                refine g_iconst hB (nI 0) dL_isMachine_261 rfl ?_
                refine g_istore hB 15 dL_isMachine_262 (by decide) ?_
                refine g_widen (k := 62 + 8 * k) (n := 372 + 48 * k) (Nat.le_refl _) (Nat.le_refl _) ?_
                exact g_sub [(0, .ref (ad 0 0)), (1, .int (nI m)), (2, .ref (ad 22 0)), (3, .ref (ad 22 1)), (4, .ref (ad 22 2)), (5, .ref (ad 22 3)), (6, .ref (ad 22 6)), (7, .int (nI (cntB (fun i => mLag S nc m ((lay (S 18 2) (grp S m)).getD i 0)) (lay (S 18 2) (grp S m)).length))), (8, .int (orN (fun k => rHid S nc m (grp S m) false k) k)), (9, .int (bI (mHalt S m))), (10, .int (nI 1)), (11, .int (nI k)), (12, .int (dcV T nc m false k)), (13, .int (nI (100 * i1 + c1))), (14, .int (bI (rHid T nc m (grp T m) false k))), (15, .int (bI (false)))] rfl (stC _ false (fun z => by cases z) (fun _ => hsome))
              · replace hnn := hnn (Or.inr c_254)
                refine g_iconst hB (nI 1) dL_isMachine_257 rfl ?_
                refine g_goto hB 262 dL_isMachine_258 (by decide) ?_
                refine g_istore hB 15 dL_isMachine_262 (by decide) ?_
                refine g_widen (k := 62 + 8 * k) (n := 372 + 48 * k) (Nat.le_refl _) (Nat.le_refl _) ?_
                exact g_sub [(0, .ref (ad 0 0)), (1, .int (nI m)), (2, .ref (ad 22 0)), (3, .ref (ad 22 1)), (4, .ref (ad 22 2)), (5, .ref (ad 22 3)), (6, .ref (ad 22 6)), (7, .int (nI (cntB (fun i => mLag S nc m ((lay (S 18 2) (grp S m)).getD i 0)) (lay (S 18 2) (grp S m)).length))), (8, .int (orN (fun k => rHid S nc m (grp S m) false k) k)), (9, .int (bI (mHalt S m))), (10, .int (nI 1)), (11, .int (nI k)), (12, .int (dcV T nc m false k)), (13, .int (nI (100 * i1 + c1))), (14, .int (bI (rHid T nc m (grp T m) false k))), (15, .int (bI (true)))] rfl (stC _ true (fun _ => hnn) (fun z => by cases z))
      · have hk4 : k = 4 := by omega
        subst hk4
        refine g_iload hB 11 dL_isMachine_171 rfl ?_
        refine g_iconst hB (nI 4) dL_isMachine_173 rfl ?_
        refine n_icmp_ge hB 4 4 402 dL_isMachine_174 (by decide) (by decide) (by decide) (fun _ => ?_) (fun z => absurd z (by decide))
        refine g_widen (k := 100) (n := 600) (by show _ ≤ _; first | (dsimp only; omega) | omega) (by show _ ≤ _; first | (dsimp only; omega) | omega) ?_
        exact g_sub _ rfl (fin T hF)
  -- what is taken
  have lays : ∀ (n j : Nat), (lay (S 18 2) (grp S m)).length - j < n → j ≤ (lay (S 18 2) (grp S m)).length → G p9 l e9 { frames := 8, cells := 200, slots := 1200, locals := 137 } s9 m9 a9 b9 me9 c9 D ad A9 17 (MQ b9 (va_Qi (fun r E' => ∃ T, r = bI true ∧ E' = SH ad ca T ∧ FRS S T) (fun E' t => WW D ad CNT A9 E' t.heap) A9) a9 s9 200 1200 A9) (2 + 12 * j) (12 + 72 * j) CNT (SH ad ca (S)) 61 [(0, .ref (ad 0 0)), (1, .int (nI m)), (2, .ref (ad 22 0)), (3, .ref (ad 22 1)), (4, .ref (ad 22 2)), (5, .ref (ad 22 3)), (6, .ref (ad 22 6)), (7, .int (nI (cntB (fun i => mLag S nc m ((lay (S 18 2) (grp S m)).getD i 0)) j))), (8, .int (nI 0)), (9, .int (bI (mHalt S m))), (10, .int (nI 1)), (11, .int (nI j))] [] := by
    intro n
    induction n with
    | zero => intro j y1; omega
    | succ n ih =>
      intro j y1 y2
      have hcb : cntB (fun i => mLag S nc m ((lay (S 18 2) (grp S m)).getD i 0)) j ≤ j := cntB_le _ _
      rcases Nat.lt_or_ge j (lay (S 18 2) (grp S m)).length with hj | hj
      · have hs := lay_lt hR hng4 hm hj
        have esl : slV S m j = nI (s4 ((lay (S 18 2) (grp S m)).getD j 0)) := slV_in hj
        have hs4 := (s10_s4 hs).2
        have keys : ∀ (n' k : Nat), 4 - k < n' → k ≤ 4 → G p9 l e9 { frames := 8, cells := 200, slots := 1200, locals := 137 } s9 m9 a9 b9 me9 c9 D ad A9 17 (MQ b9 (va_Qi (fun r E' => ∃ T, r = bI true ∧ E' = SH ad ca T ∧ FRS S T) (fun E' t => WW D ad CNT A9 E' t.heap) A9) a9 s9 200 1200 A9) (2 + 12 * j + 3 * k) (12 + 72 * j + 18 * k) CNT (SH ad ca (S)) 79 [(0, .ref (ad 0 0)), (1, .int (nI m)), (2, .ref (ad 22 0)), (3, .ref (ad 22 1)), (4, .ref (ad 22 2)), (5, .ref (ad 22 3)), (6, .ref (ad 22 6)), (7, .int (nI (cntB (fun i => mLag S nc m ((lay (S 18 2) (grp S m)).getD i 0)) j))), (8, .int (nI 0)), (9, .int (bI (mHalt S m))), (10, .int (nI 1)), (11, .int (nI j)), (12, .int (nI k))] [] := by
          intro n'
          induction n' with
          | zero => intro k y3; omega
          | succ n' ih' =>
            intro k y3 y4
            rcases Nat.lt_or_ge k 4 with hk | hk
            · obtain ⟨x, x1, x2, -⟩ := ch_it hL0 (show m < 3 by omega) hs hk true
              have hx2 := x2 rfl
              have ht := qv_taken h hm hj (show k < 6 by omega)
              have hsub : nI x - nI 1 = S 18 5 (6 * (11 * m + (lay (S 18 2) (grp S m)).getD j 0) + k) := it_sub x1
              have hcl := qv_len h hm
              refine g_iload hB 12 dL_isMachine_79 rfl ?_
              refine g_iconst hB (nI 4) dL_isMachine_81 rfl ?_
              refine n_icmp_ge hB k 4 137 dL_isMachine_82 (by decide) (by omega) (by omega) (fun c_82 => ?_) (fun c_82 => ?_)
              · exact absurd c_82 (by omega)
              · refine g_iload hB 10 dL_isMachine_85 rfl ?_
                refine g_if_eq hB 128 dL_isMachine_87 (by decide) (fun z => absurd z (by decide)) (fun _ => ?_)
                refine g_aload_n hB 0 dL_isMachine_90 rfl rfl ?_
                refine g_iload_n hB 1 dL_isMachine_91 rfl rfl ?_
                refine g_iload hB 11 dL_isMachine_92 rfl ?_
                refine g_iload hB 12 dL_isMachine_94 rfl ?_
                refine g_callNVI hB (c_X5_taken hl _ ng nm nc t pa h.1 _ _ _) k_L_72 rfl yk_X5_taken ⟨Nat.le_of_ble_eq_true rfl, Nat.le_of_ble_eq_true rfl⟩ ⟨(by decide), _, _, _, rfl, rfl, rfl⟩ rfl (Nat.le_of_ble_eq_true rfl) ⟨by show _ ≤ _; first | (dsimp only; omega) | omega, by show _ ≤ _; first | (dsimp only; omega) | omega⟩ dL_isMachine_96 (fun X hX => nx_of (taC_0 hm (by omega) (by omega) (by omega) (by omega)) hX) ?_
                rintro _ _ ⟨-, rfl, rfl⟩
                refine g_top ((S 18 5 (6 * (11 * m + (lay (S 18 2) (grp S m)).getD j 0) + k))) (ht) ?_
                refine g_aload hB 4 dL_isMachine_99 rfl ?_
                refine g_bipush hB (nI 20) dL_isMachine_101 rfl ?_
                refine g_iload_n hB 1 dL_isMachine_103 rfl rfl ?_
                refine g_imul hB dL_isMachine_104 ?_
                refine g_top (nI (20 * m)) (pk_mul _ _) ?_
                refine g_iconst hB (nI 4) dL_isMachine_105 rfl ?_
                refine g_iload_n hB 1 dL_isMachine_106 rfl rfl ?_
                refine g_iload hB 11 dL_isMachine_107 rfl ?_
                refine g_aload_n hB 3 dL_isMachine_109 rfl rfl ?_
                refine g_callSI hB (c_L_slot _ ng nm nc t pa rk hL0 hR m hm j (Nat.le_of_lt hj)) k_L_39 yk_L_slot ⟨Nat.le_of_ble_eq_true rfl, Nat.le_of_ble_eq_true rfl⟩ rfl (Nat.le_of_ble_eq_true rfl) ⟨by show _ ≤ _; first | (dsimp only; omega) | omega, by show _ ≤ _; first | (dsimp only; omega) | omega⟩ dL_isMachine_110 ?_
                rintro _ _ ⟨rfl, rfl⟩
                refine g_top (nI (s4 ((lay (S 18 2) (grp S m)).getD j 0))) (esl) ?_
                refine g_imul hB dL_isMachine_113 ?_
                refine g_top (nI (4 * (s4 ((lay (S 18 2) (grp S m)).getD j 0)))) (pk_mul _ _) ?_
                refine g_iadd hB dL_isMachine_114 ?_
                refine g_top (nI (20 * m + 4 * (s4 ((lay (S 18 2) (grp S m)).getD j 0)))) (nI_add _ _) ?_
                refine g_iload hB 12 dL_isMachine_115 rfl ?_
                refine g_iadd hB dL_isMachine_117 ?_
                refine g_top (nI (20 * m + 4 * (s4 ((lay (S 18 2) (grp S m)).getD j 0)) + k)) (nI_add _ _) ?_
                refine g_iald hB 22 2 (20 * m + 4 * (s4 ((lay (S 18 2) (grp S m)).getD j 0)) + k) (n := 60) (by decide) rfl (by first | assumption | omega) (Nat.le_of_ble_eq_true rfl) dL_isMachine_118 ?_
                refine g_top (nI (x)) (hx2) ?_
                refine g_iconst hB (nI 1) dL_isMachine_119 rfl ?_
                refine g_isub hB dL_isMachine_120 ?_
                refine g_top ((S 18 5 (6 * (11 * m + (lay (S 18 2) (grp S m)).getD j 0) + k))) (hsub) ?_
                refine g_icmp_ne hB 128 dL_isMachine_121 (by decide) (fun c_121 => ?_) (fun c_121 => ?_)
                · exact absurd rfl c_121
                · refine g_iconst hB (nI 1) dL_isMachine_124 rfl ?_
                  refine g_goto hB 129 dL_isMachine_125 (by decide) ?_
                  refine g_istore hB 10 dL_isMachine_129 (by decide) ?_
                  refine g_iinc hB (nI (k + 1)) dL_isMachine_131 rfl (nI_1 _) (by decide) ?_
                  refine g_goto hB 79 dL_isMachine_134 (by decide) ?_
                  refine g_widen (k := 2 + 12 * j + 3 * (k + 1)) (n := 12 + 72 * j + 18 * (k + 1)) (by show _ ≤ _; first | (dsimp only; omega) | omega) (by show _ ≤ _; first | (dsimp only; omega) | omega) ?_
                  exact g_sub _ rfl (ih' (k + 1) (by omega) (by omega))
            · have hk4 : k = 4 := by omega
              subst hk4
              refine g_iload hB 12 dL_isMachine_79 rfl ?_
              refine g_iconst hB (nI 4) dL_isMachine_81 rfl ?_
              refine n_icmp_ge hB 4 4 137 dL_isMachine_82 (by decide) (by decide) (by decide) (fun _ => ?_) (fun z => absurd z (by decide))
              refine g_iload hB 7 dL_isMachine_137 rfl ?_
              refine g_iload_n hB 1 dL_isMachine_139 rfl rfl ?_
              refine g_iload hB 11 dL_isMachine_140 rfl ?_
              refine g_aload_n hB 2 dL_isMachine_142 rfl rfl ?_
              refine g_aload_n hB 3 dL_isMachine_143 rfl rfl ?_
              refine g_aload hB 4 dL_isMachine_144 rfl ?_
              refine g_aload hB 5 dL_isMachine_146 rfl ?_
              refine g_callSI hB (c_L_lags _ ng nm nc t pa rk hL0 hR m hm j hj) k_L_76 yk_L_lags ⟨Nat.le_of_ble_eq_true rfl, Nat.le_of_ble_eq_true rfl⟩ rfl (Nat.le_of_ble_eq_true rfl) ⟨by show _ ≤ _; first | (dsimp only; omega) | omega, by show _ ≤ _; first | (dsimp only; omega) | omega⟩ dL_isMachine_148 ?_
              rintro _ _ ⟨rfl, rfl⟩
              refine b_if_eq hB (mLag S nc m ((lay (S 18 2) (grp S m)).getD j 0)) 158 dL_isMachine_151 (by decide) (fun c_151 => ?_) (fun c_151 => ?_)
              · have hcn : cntB (fun i => mLag S nc m ((lay (S 18 2) (grp S m)).getD i 0)) j + 0 = cntB (fun i => mLag S nc m ((lay (S 18 2) (grp S m)).getD i 0)) (j + 1) := by rw [cntB, c_151]; rfl
                refine g_iconst hB (nI 0) dL_isMachine_158 rfl ?_
                refine g_iadd hB dL_isMachine_159 ?_
                refine g_top (nI (cntB (fun i => mLag S nc m ((lay (S 18 2) (grp S m)).getD i 0)) j + 0)) (nI_add _ _) ?_
                refine g_istore hB 7 dL_isMachine_160 (by decide) ?_
                refine g_iinc hB (nI (j + 1)) dL_isMachine_162 rfl (nI_1 _) (by decide) ?_
                refine g_goto hB 61 dL_isMachine_165 (by decide) ?_
                rw [hcn]
                refine g_widen (k := 2 + 12 * (j + 1)) (n := 12 + 72 * (j + 1)) (by show _ ≤ _; first | (dsimp only; omega) | omega) (by show _ ≤ _; first | (dsimp only; omega) | omega) ?_
                exact g_sub _ rfl (ih (j + 1) (by omega) (by omega))
              · have hcn : cntB (fun i => mLag S nc m ((lay (S 18 2) (grp S m)).getD i 0)) j + 1 = cntB (fun i => mLag S nc m ((lay (S 18 2) (grp S m)).getD i 0)) (j + 1) := by rw [cntB, c_151]; rfl
                refine g_iconst hB (nI 1) dL_isMachine_154 rfl ?_
                refine g_goto hB 159 dL_isMachine_155 (by decide) ?_
                refine g_iadd hB dL_isMachine_159 ?_
                refine g_top (nI (cntB (fun i => mLag S nc m ((lay (S 18 2) (grp S m)).getD i 0)) j + 1)) (nI_add _ _) ?_
                refine g_istore hB 7 dL_isMachine_160 (by decide) ?_
                refine g_iinc hB (nI (j + 1)) dL_isMachine_162 rfl (nI_1 _) (by decide) ?_
                refine g_goto hB 61 dL_isMachine_165 (by decide) ?_
                rw [hcn]
                refine g_widen (k := 2 + 12 * (j + 1)) (n := 12 + 72 * (j + 1)) (by show _ ≤ _; first | (dsimp only; omega) | omega) (by show _ ≤ _; first | (dsimp only; omega) | omega) ?_
                exact g_sub _ rfl (ih (j + 1) (by omega) (by omega))
        refine g_iload hB 11 dL_isMachine_61 rfl ?_
        refine g_iload_n hB 1 dL_isMachine_63 rfl rfl ?_
        refine g_aload_n hB 3 dL_isMachine_64 rfl rfl ?_
        refine g_callSI hB (c_L_layers _ ng nm nc t pa rk hL0 hR m hm) k_L_49 yk_L_layers ⟨Nat.le_of_ble_eq_true rfl, Nat.le_of_ble_eq_true rfl⟩ rfl (Nat.le_of_ble_eq_true rfl) ⟨by show _ ≤ _; first | (dsimp only; omega) | omega, by show _ ≤ _; first | (dsimp only; omega) | omega⟩ dL_isMachine_65 ?_
        rintro _ _ ⟨rfl, rfl⟩
        refine n_icmp_ge hB j ((lay (S 18 2) (grp S m)).length) 168 dL_isMachine_68 (by decide) (by omega) (by omega) (fun c_68 => ?_) (fun c_68 => ?_)
        · exact absurd c_68 (by omega)
        · refine g_iload hB 10 dL_isMachine_71 rfl ?_
          refine g_if_eq hB 168 dL_isMachine_73 (by decide) (fun z => absurd z (by decide)) (fun _ => ?_)
          refine g_iconst hB (nI 0) dL_isMachine_76 rfl ?_
          refine g_istore hB 12 dL_isMachine_77 (by decide) ?_
          refine g_widen (k := 2 + 12 * j + 3 * 0) (n := 12 + 72 * j + 18 * 0) (by show _ ≤ _; first | (dsimp only; omega) | omega) (by show _ ≤ _; first | (dsimp only; omega) | omega) ?_
          exact g_sub _ rfl (keys 5 0 (by omega) (by omega))
      · have hje : j = (lay (S 18 2) (grp S m)).length := by omega
        rw [hje]
        refine g_iload hB 11 dL_isMachine_61 rfl ?_
        refine g_iload_n hB 1 dL_isMachine_63 rfl rfl ?_
        refine g_aload_n hB 3 dL_isMachine_64 rfl rfl ?_
        refine g_callSI hB (c_L_layers _ ng nm nc t pa rk hL0 hR m hm) k_L_49 yk_L_layers ⟨Nat.le_of_ble_eq_true rfl, Nat.le_of_ble_eq_true rfl⟩ rfl (Nat.le_of_ble_eq_true rfl) ⟨by show _ ≤ _; first | (dsimp only; omega) | omega, by show _ ≤ _; first | (dsimp only; omega) | omega⟩ dL_isMachine_65 ?_
        rintro _ _ ⟨rfl, rfl⟩
        refine n_icmp_ge hB ((lay (S 18 2) (grp S m)).length) ((lay (S 18 2) (grp S m)).length) 168 dL_isMachine_68 (by decide) (by omega) (by omega) (fun c_68 => ?_) (fun c_68 => ?_)
        · refine g_iconst hB (nI 0) dL_isMachine_168 rfl ?_
          refine g_istore hB 11 dL_isMachine_169 (by decide) ?_
          refine g_widen (k := 62 + 8 * 0) (n := 372 + 48 * 0) (by show _ ≤ _; first | (dsimp only; omega) | omega) (by show _ ≤ _; first | (dsimp only; omega) | omega) ?_
          exact g_sub _ rfl (key 5 0 S (by omega) (by omega) FRS_r)
        · exact absurd c_68 (by omega)
  have vb := qv_busy h hm
  have vh := qv_halt h hm
  refine g_iconst hB (nI 0) dL_isMachine_0 rfl ?_
  refine g_istore hB 7 dL_isMachine_1 (by decide) ?_
  refine g_iconst hB (nI 0) dL_isMachine_3 rfl ?_
  refine g_istore hB 8 dL_isMachine_4 (by decide) ?_
  refine g_iload_n hB 1 dL_isMachine_6 rfl rfl ?_
  refine g_aload hB 4 dL_isMachine_7 rfl ?_
  refine g_aload hB 5 dL_isMachine_9 rfl ?_
  refine g_callSI hB (c_L_stopped _ ng nm nc t pa rk hL0 hR m hm) k_L_61 yk_L_stopped ⟨Nat.le_of_ble_eq_true rfl, Nat.le_of_ble_eq_true rfl⟩ rfl (Nat.le_of_ble_eq_true rfl) ⟨Nat.le_of_ble_eq_true rfl, Nat.le_of_ble_eq_true rfl⟩ dL_isMachine_11 ?_
  rintro _ _ ⟨rfl, rfl⟩
  refine g_istore hB 9 dL_isMachine_14 (by decide) ?_
  refine g_aload_n hB 0 dL_isMachine_16 rfl rfl ?_
  refine g_iload_n hB 1 dL_isMachine_17 rfl rfl ?_
  refine g_callNVI hB (c_X5_isStopped hl _ ng nm nc t pa h.1 _) k_L_65 rfl yk_X5_isStopped ⟨Nat.le_of_ble_eq_true rfl, Nat.le_of_ble_eq_true rfl⟩ ⟨(by decide), _, _, _, rfl, rfl, rfl⟩ rfl (Nat.le_of_ble_eq_true rfl) ⟨Nat.le_of_ble_eq_true rfl, Nat.le_of_ble_eq_true rfl⟩ dL_isMachine_18 (fun X hX => nx_of (rqC_0 hm (by omega)) hX) ?_
  rintro _ _ ⟨-, rfl, rfl⟩
  refine g_top ((bI (mHalt S m))) (vh) ?_
  refine g_iload hB 9 dL_isMachine_21 rfl ?_
  refine g_icmp_ne hB 55 dL_isMachine_23 (by decide) (fun c_23 => ?_) (fun c_23 => ?_)
  · exact absurd rfl c_23
  · refine g_aload_n hB 0 dL_isMachine_26 rfl rfl ?_
    refine g_iload_n hB 1 dL_isMachine_27 rfl rfl ?_
    refine g_callNVI hB (c_X5_isBusy hl _ ng nm nc t pa h.1 _) k_L_69 rfl yk_X5_isBusy ⟨Nat.le_of_ble_eq_true rfl, Nat.le_of_ble_eq_true rfl⟩ ⟨(by decide), _, _, _, rfl, rfl, rfl⟩ rfl (Nat.le_of_ble_eq_true rfl) ⟨Nat.le_of_ble_eq_true rfl, Nat.le_of_ble_eq_true rfl⟩ dL_isMachine_28 (fun X hX => nx_of (rqC_0 hm (by omega)) hX) ?_
    rintro _ _ ⟨-, rfl, rfl⟩
    refine g_top ((bI (decide (S 17 0 1 < S 18 4 m)))) (vb) ?_
    refine g_aload_n hB 2 dL_isMachine_31 rfl rfl ?_
    refine g_iconst hB (nI 0) dL_isMachine_32 rfl ?_
    refine g_iald hB 22 0 0 (n := 12) (by decide) rfl (by first | assumption | omega) (Nat.le_of_ble_eq_true rfl) dL_isMachine_33 ?_
    refine g_top (nI (t)) (q0) ?_
    refine g_aload_n hB 3 dL_isMachine_34 rfl rfl ?_
    refine g_bipush hB (nI 7) dL_isMachine_35 rfl ?_
    refine g_iload_n hB 1 dL_isMachine_37 rfl rfl ?_
    refine g_iadd hB dL_isMachine_38 ?_
    refine g_top (nI (7 + m)) (nI_add _ _) ?_
    refine g_iald hB 22 1 (7 + m) (n := 10) (by decide) rfl (by first | assumption | omega) (Nat.le_of_ble_eq_true rfl) dL_isMachine_39 ?_
    refine g_icmp_ge hB 47 dL_isMachine_40 (by decide) (fun c_40 => ?_) (fun c_40 => ?_)
    · have eb : bI (decide (S 17 0 1 < S 18 4 m)) = nI 0 := by rw [← ebs, decide_eq_false (Int32.not_lt.mpr c_40)]; rfl
      refine g_iconst hB (nI 0) dL_isMachine_47 rfl ?_
      refine g_icmp_ne hB 55 dL_isMachine_48 (by decide) (fun c_48 => ?_) (fun c_48 => ?_)
      · exact absurd eb c_48
      · refine g_iconst hB (nI 1) dL_isMachine_51 rfl ?_
        refine g_goto hB 56 dL_isMachine_52 (by decide) ?_
        refine g_istore hB 10 dL_isMachine_56 (by decide) ?_
        refine g_iconst hB (nI 0) dL_isMachine_58 rfl ?_
        refine g_istore hB 11 dL_isMachine_59 (by decide) ?_
        refine g_widen (k := 2 + 12 * 0) (n := 12 + 72 * 0) (by show _ ≤ _; first | (dsimp only; omega) | omega) (by show _ ≤ _; first | (dsimp only; omega) | omega) ?_
        exact g_sub _ rfl (lays ((lay (S 18 2) (grp S m)).length + 1) 0 (by omega) (by omega))
    · have eb : bI (decide (S 17 0 1 < S 18 4 m)) = nI 1 := by rw [← ebs, decide_eq_true (Int32.not_le.mp c_40)]; rfl
      refine g_iconst hB (nI 1) dL_isMachine_43 rfl ?_
      refine g_goto hB 48 dL_isMachine_44 (by decide) ?_
      refine g_icmp_ne hB 55 dL_isMachine_48 (by decide) (fun c_48 => ?_) (fun c_48 => ?_)
      · exact absurd eb c_48
      · refine g_iconst hB (nI 1) dL_isMachine_51 rfl ?_
        refine g_goto hB 56 dL_isMachine_52 (by decide) ?_
        refine g_istore hB 10 dL_isMachine_56 (by decide) ?_
        refine g_iconst hB (nI 0) dL_isMachine_58 rfl ?_
        refine g_istore hB 11 dL_isMachine_59 (by decide) ?_
        refine g_widen (k := 2 + 12 * 0) (n := 12 + 72 * 0) (by show _ ≤ _; first | (dsimp only; omega) | omega) (by show _ ≤ _; first | (dsimp only; omega) | omega) ?_
        exact g_sub _ rfl (lays ((lay (S 18 2) (grp S m)).length + 1) 0 (by omega) (by omega))
end L7
