/-! the class: machines -/
section X2
variable {l : Launch} {D : va_G} {ad : Nat → Nat → Nat} {ca : Nat → ClassId} {SR : List (String × Nat × String)}

theorem c_X2_hasLayer (S : Mem) (i : Nat) (hi : i < 12) (L : List Nat) (hL : MK S i L) (x : Int32) : CI l yX2_hasLayer cX2_hasLayer 2 (some .boolean) { frames := 0, cells := 0, slots := 0, locals := 0 } D ad CNT ca SR (SH ad ca S) [.ref (ad 6 i), .int (x)] (PR ad ca (bI (rgB x L.length)) S) := by
  have hlen := hL.2.1
  refine CI.of _ RX2 (by decide +kernel) rfl (Nat.le_of_ble_eq_true rfl) ?_
  intro p9 e9 s9 m9 a9 b9 me9 c9 A9 hB hr hnm9
  refine g_iload_n hB 1 dX2_hasLayer_0 rfl rfl ?_
  refine g_if_lt hB 16 dX2_hasLayer_1 (by decide) (fun c_1 => ?_) (fun c_1 => ?_)
  · refine g_iconst hB (nI 0) dX2_hasLayer_16 rfl ?_
    exact g_iret hB hr rfl (Nat.le_of_ble_eq_true rfl) (Nat.le_of_ble_eq_true rfl) (⟨by first | (rw [rg1 c_1]; rfl) | (rw [rg2 (by omega) c_9]; rfl) | (rw [rg3 (by omega) c_1 c_9]; rfl), rfl⟩) dX2_hasLayer_17
  · refine g_iload_n hB 1 dX2_hasLayer_4 rfl rfl ?_
    refine g_aload_n hB 0 dX2_hasLayer_5 rfl rfl ?_
    refine g_get (ci := 2) (T := TX2) (N := 6) hB in_X2 rfl 6 i 3 (show i < 12 by first | assumption | omega) (by decide) rfl tw_fl_X2_29 rfl dX2_hasLayer_6 ?_
    refine g_top (nI (L.length)) (hL.1) ?_
    refine g_icmp_ge hB 16 dX2_hasLayer_9 (by decide) (fun c_9 => ?_) (fun c_9 => ?_)
    · refine g_iconst hB (nI 0) dX2_hasLayer_16 rfl ?_
      exact g_iret hB hr rfl (Nat.le_of_ble_eq_true rfl) (Nat.le_of_ble_eq_true rfl) (⟨by first | (rw [rg1 c_1]; rfl) | (rw [rg2 (by omega) c_9]; rfl) | (rw [rg3 (by omega) c_1 c_9]; rfl), rfl⟩) dX2_hasLayer_17
    · refine g_iconst hB (nI 1) dX2_hasLayer_12 rfl ?_
      refine g_goto hB 17 dX2_hasLayer_13 (by decide) ?_
      exact g_iret hB hr rfl (Nat.le_of_ble_eq_true rfl) (Nat.le_of_ble_eq_true rfl) (⟨by first | (rw [rg1 c_1]; rfl) | (rw [rg2 (by omega) c_9]; rfl) | (rw [rg3 (by omega) c_1 c_9]; rfl), rfl⟩) dX2_hasLayer_17
theorem c_X2_cellIn (S : Mem) (i : Nat) (hi : i < 12) (L : List Nat) (hL : MK S i L) (j : Nat) (hj : j < L.length) (k : Nat) : CI l yX2_cellIn cX2_cellIn 3 (some .int) { frames := 1, cells := 0, slots := 0, locals := 21 } D ad CNT ca SR (SH ad ca S) [.ref (ad 6 i), .int (nI j), .int (nI k)] (PR ad ca (nI (L.getD j 0 * 6 + k)) S) := by
  obtain ⟨ej, hsj⟩ := hL.2.2 j hj
  have hlen := hL.2.1
  refine CI.of _ RX2 (by decide +kernel) rfl (Nat.le_of_ble_eq_true rfl) ?_
  intro p9 e9 s9 m9 a9 b9 me9 c9 A9 hB hr hnm9
  refine g_aload_n hB 0 dX2_cellIn_0 rfl rfl ?_
  refine g_iload_n hB 1 dX2_cellIn_1 rfl rfl ?_
  refine g_callVI hB (c_X2_hasLayer _ i hi L hL _) k_X2_39 rfl yk_X2_hasLayer ⟨Nat.le_of_ble_eq_true rfl, Nat.le_of_ble_eq_true rfl⟩ ⟨(show i < 12 by first | assumption | omega), _, _, _, rfl, rfl, rfl⟩ rfl (Nat.le_of_ble_eq_true rfl) ⟨Nat.le_of_ble_eq_true rfl, Nat.le_of_ble_eq_true rfl⟩ dX2_cellIn_2 ?_
  rintro _ _ ⟨rfl, rfl⟩
  refine b_if_eq hB (rgB (nI j) L.length) 21 dX2_cellIn_5 (by decide) (fun c_5 => ?_) (fun c_5 => ?_)
  · rw [rgB_nI (by omega), decide_eq_true hj] at c_5
    cases c_5
  · refine g_aload_n hB 0 dX2_cellIn_8 rfl rfl ?_
    refine g_get (ci := 2) (T := TX2) (N := 6) hB in_X2 rfl 6 i 5 (show i < 12 by first | assumption | omega) (by decide) rfl tw_fl_X2_18 rfl dX2_cellIn_9 ?_
    refine g_iload_n hB 1 dX2_cellIn_12 rfl rfl ?_
    refine g_iald hB 7 i j (n := 11) (show i < 12 by first | assumption | omega) rfl (by first | assumption | omega) (Nat.le_of_ble_eq_true rfl) dX2_cellIn_13 ?_
    refine g_top (nI (L.getD j 0)) (ej) ?_
    refine g_iload_n hB 2 dX2_cellIn_14 rfl rfl ?_
    refine g_callNI hB (host := RX5) (c_X5_cellOf _ _ _) tw_code_X5_cellOf (by decide) tw_ini_X5 tw_st_X5_cellOf yk_X5_cellOf ⟨Nat.le_of_ble_eq_true rfl, Nat.le_of_ble_eq_true rfl⟩ rfl (Nat.le_of_ble_eq_true rfl) ⟨Nat.le_of_ble_eq_true rfl, Nat.le_of_ble_eq_true rfl⟩ dX2_cellIn_15 ?_
    rintro _ _ ⟨rfl, rfl⟩
    refine g_goto hB 22 dX2_cellIn_18 (by decide) ?_
    exact g_iret hB hr rfl (Nat.le_of_ble_eq_true rfl) (Nat.le_of_ble_eq_true rfl) (⟨rfl, rfl⟩) dX2_cellIn_22
theorem c_X5_nearestLayerNotHeld (S : Mem) (nc : Nat) (hc : S 0 0 9 = nI nc) (hnc : nc ≤ 40) (i : Nat) (hi : i < 12) (L : List Nat) (hL : MK S i L) : CI l yX5_nearestLayerNotHeld cX5_nearestLayerNotHeld 4 (some .int) { frames := 2, cells := 0, slots := 0, locals := 43 } D ad CNT ca SR (SH ad ca S) [.ref (ad 0 0), .ref (ad 6 i)] (PR ad ca (oI (cNear S nc i L)) S) := by
  refine CI.of _ RX5 (by decide +kernel) rfl (Nat.le_of_ble_eq_true rfl) ?_
  intro p9 e9 s9 m9 a9 b9 me9 c9 A9 hB hr hnm9
  have inner : ∀ (j : Nat), j < L.length → (∀ k, k < j → cNhL S nc i (L.getD k 0) = false) → (cNhL S nc i (L.getD j 0) = false → G p9 l e9 { frames := 2, cells := 0, slots := 0, locals := 43 } s9 m9 a9 b9 me9 c9 D ad A9 4 (MQ b9 (va_Qi (PR ad ca (oI (cNear S nc i L)) S) (fun E' t => WW D ad CNT A9 E' t.heap) A9) a9 s9 0 0 A9) 0 0 CNT (SH ad ca (S)) 46 [(0, .ref (ad 0 0)), (1, .ref (ad 6 i)), (2, .int (nI j))] []) → ∀ (n k : Nat), 6 - k < n → k ≤ 6 → (∀ k', k' < k → cNh S nc (S 8 i (L.getD j 0 * 6 + k')) = false) → G p9 l e9 { frames := 2, cells := 0, slots := 0, locals := 43 } s9 m9 a9 b9 me9 c9 D ad A9 4 (MQ b9 (va_Qi (PR ad ca (oI (cNear S nc i L)) S) (fun E' t => WW D ad CNT A9 E' t.heap) A9) a9 s9 0 0 A9) 0 0 CNT (SH ad ca (S)) 12 [(0, .ref (ad 0 0)), (1, .ref (ad 6 i)), (2, .int (nI j)), (3, .int (nI k))] [] := by
    intro j hj hbef hK n
    obtain ⟨ej, hsj⟩ := hL.2.2 j hj
    have hlen := hL.2.1
    induction n with
    | zero => intro k h1; omega
    | succ n ih =>
      intro k h1 h2 hk'
      refine g_iload_n hB 3 dX5_nearestLayerNotHeld_12 rfl rfl ?_
      refine g_bipush hB (nI 6) dX5_nearestLayerNotHeld_13 rfl ?_
      refine n_icmp_ge hB k 6 46 dX5_nearestLayerNotHeld_15 (by decide) (by omega) (by omega) (fun c_15 => ?_) (fun c_15 => ?_)
      · have hz : cNhL S nc i (L.getD j 0) = false := anyB_f (fun k hk => hk' k (by omega))
        exact g_sub _ rfl (hK hz)
      · refine g_aload_n hB 0 dX5_nearestLayerNotHeld_18 rfl rfl ?_
        refine g_aload_n hB 1 dX5_nearestLayerNotHeld_19 rfl rfl ?_
        refine g_get (ci := 2) (T := TX2) (N := 6) hB in_X2 rfl 6 i 4 (show i < 12 by first | assumption | omega) (by decide) rfl tw_fl_X5_239 rfl dX5_nearestLayerNotHeld_20 ?_
        refine g_aload_n hB 1 dX5_nearestLayerNotHeld_23 rfl rfl ?_
        refine g_iload_n hB 2 dX5_nearestLayerNotHeld_24 rfl rfl ?_
        refine g_iload_n hB 3 dX5_nearestLayerNotHeld_25 rfl rfl ?_
        refine g_callVI hB (c_X2_cellIn _ i hi L hL j hj k) k_X5_242 rfl yk_X2_cellIn ⟨Nat.le_of_ble_eq_true rfl, Nat.le_of_ble_eq_true rfl⟩ ⟨(show i < 12 by first | assumption | omega), _, _, _, rfl, rfl, rfl⟩ rfl (Nat.le_of_ble_eq_true rfl) ⟨Nat.le_of_ble_eq_true rfl, Nat.le_of_ble_eq_true rfl⟩ dX5_nearestLayerNotHeld_26 ?_
        rintro _ _ ⟨rfl, rfl⟩
        refine g_callVI hB (c_X9_get8 _ i hi (L.getD j 0 * 6 + k) (by omega)) k_X5_223 rfl yk_X9_get ⟨Nat.le_of_ble_eq_true rfl, Nat.le_of_ble_eq_true rfl⟩ ⟨(show i < 12 by first | assumption | omega), _, _, _, rfl, rfl, rfl⟩ rfl (Nat.le_of_ble_eq_true rfl) ⟨Nat.le_of_ble_eq_true rfl, Nat.le_of_ble_eq_true rfl⟩ dX5_nearestLayerNotHeld_29 ?_
        rintro _ _ ⟨rfl, rfl⟩
        refine g_callVI hB (c_X5_isTakenNotHeld _ _ nc hc hnc) k_X5_325 rfl yk_X5_isTakenNotHeld ⟨Nat.le_of_ble_eq_true rfl, Nat.le_of_ble_eq_true rfl⟩ ⟨(by decide), _, _, _, rfl, rfl, rfl⟩ rfl (Nat.le_of_ble_eq_true rfl) ⟨Nat.le_of_ble_eq_true rfl, Nat.le_of_ble_eq_true rfl⟩ dX5_nearestLayerNotHeld_32 ?_
        rintro _ _ ⟨rfl, rfl⟩
        refine b_if_eq hB (cNh S nc (S 8 i (L.getD j 0 * 6 + k))) 40 dX5_nearestLayerNotHeld_35 (by decide) (fun c_35 => ?_) (fun c_35 => ?_)
        · refine g_iinc hB (nI (k + 1)) dX5_nearestLayerNotHeld_40 rfl (nI_1 _) (by decide) ?_
          refine g_goto hB 12 dX5_nearestLayerNotHeld_43 (by decide) ?_
          refine g_sub _ rfl (ih (k + 1) (by omega) (by omega) (fun q hq => ?_))
          rcases Nat.lt_or_ge q k with y | y
          · exact hk' q y
          · rw [show q = k by omega]; exact c_35
        · have hz : cNear S nc i L = some j := fstN_some.mpr ⟨hj, anyB_s c_35 c_15, hbef⟩
          refine g_iload_n hB 2 dX5_nearestLayerNotHeld_38 rfl rfl ?_
          exact g_iret hB hr rfl (Nat.le_of_ble_eq_true rfl) (Nat.le_of_ble_eq_true rfl) (⟨by rw [hz]; rfl, rfl⟩) dX5_nearestLayerNotHeld_39
  have loop : ∀ (n j : Nat), L.length - j < n → j ≤ L.length → (∀ k, k < j → cNhL S nc i (L.getD k 0) = false) → G p9 l e9 { frames := 2, cells := 0, slots := 0, locals := 43 } s9 m9 a9 b9 me9 c9 D ad A9 4 (MQ b9 (va_Qi (PR ad ca (oI (cNear S nc i L)) S) (fun E' t => WW D ad CNT A9 E' t.heap) A9) a9 s9 0 0 A9) 0 0 CNT (SH ad ca (S)) 2 [(0, .ref (ad 0 0)), (1, .ref (ad 6 i)), (2, .int (nI j))] [] := by
    intro n
    have hlen := hL.2.1
    induction n with
    | zero => intro j h1; omega
    | succ n ih =>
      intro j h1 h2 hbef
      have hK : j < L.length → cNhL S nc i (L.getD j 0) = false → G p9 l e9 { frames := 2, cells := 0, slots := 0, locals := 43 } s9 m9 a9 b9 me9 c9 D ad A9 4 (MQ b9 (va_Qi (PR ad ca (oI (cNear S nc i L)) S) (fun E' t => WW D ad CNT A9 E' t.heap) A9) a9 s9 0 0 A9) 0 0 CNT (SH ad ca (S)) 46 [(0, .ref (ad 0 0)), (1, .ref (ad 6 i)), (2, .int (nI j))] [] := by
        intro hj hz
        refine g_iinc hB (nI (j + 1)) dX5_nearestLayerNotHeld_46 rfl (nI_1 _) (by decide) ?_
        refine g_goto hB 2 dX5_nearestLayerNotHeld_49 (by decide) ?_
        refine g_sub _ rfl (ih (j + 1) (by omega) (by omega) (fun q hq => ?_))
        rcases Nat.lt_or_ge q j with y | y
        · exact hbef q y
        · rw [show q = j by omega]; exact hz
      refine g_iload_n hB 2 dX5_nearestLayerNotHeld_2 rfl rfl ?_
      refine g_aload_n hB 1 dX5_nearestLayerNotHeld_3 rfl rfl ?_
      refine g_get (ci := 2) (T := TX2) (N := 6) hB in_X2 rfl 6 i 3 (show i < 12 by first | assumption | omega) (by decide) rfl tw_fl_X5_262 rfl dX5_nearestLayerNotHeld_4 ?_
      refine g_top (nI (L.length)) (hL.1) ?_
      refine n_icmp_ge hB j (L.length) 52 dX5_nearestLayerNotHeld_7 (by decide) (by omega) (by omega) (fun c_7 => ?_) (fun c_7 => ?_)
      · have hz : cNear S nc i L = none := fstN_none.mpr (fun k hk => hbef k (by omega))
        refine g_iconst hB (-1) dX5_nearestLayerNotHeld_52 rfl ?_
        exact g_iret hB hr rfl (Nat.le_of_ble_eq_true rfl) (Nat.le_of_ble_eq_true rfl) (⟨by rw [hz]; rfl, rfl⟩) dX5_nearestLayerNotHeld_53
      · refine g_iconst hB (nI 0) dX5_nearestLayerNotHeld_10 rfl ?_
        refine g_istore_n hB 3 dX5_nearestLayerNotHeld_11 rfl (by decide) ?_
        exact g_sub _ rfl (inner j c_7 hbef (hK c_7) 7 0 (by omega) (by omega) (fun k hk => by omega))
  refine g_iconst hB (nI 0) dX5_nearestLayerNotHeld_0 rfl ?_
  refine g_istore_n hB 2 dX5_nearestLayerNotHeld_1 rfl (by decide) ?_
  exact g_sub _ rfl (loop (L.length + 1) 0 (by omega) (by omega) (fun k hk => by omega))
theorem c_X5_isBehindIn (S : Mem) (i : Nat) (hi : i < 12) (L : List Nat) (hL : MK S i L) (j : Nat) (hj : j < L.length) : CI l yX5_isBehindIn cX5_isBehindIn 5 (some .boolean) { frames := 2, cells := 0, slots := 0, locals := 43 } D ad CNT ca SR (SH ad ca S) [.ref (ad 0 0), .ref (ad 6 i), .int (nI j)] (PR ad ca (bI (cBeh S i (L.getD j 0))) S) := by
  obtain ⟨ej, hsj⟩ := hL.2.2 j hj
  have hlen := hL.2.1
  refine CI.of _ RX5 (by decide +kernel) rfl (Nat.le_of_ble_eq_true rfl) ?_
  intro p9 e9 s9 m9 a9 b9 me9 c9 A9 hB hr hnm9
  have loop : ∀ (n k : Nat), 6 - k < n → k ≤ 6 → (∀ k', k' < k → decide (S 8 i (L.getD j 0 * 6 + k') ≠ S 13 0 (L.getD j 0 * 6 + k')) = false) → G p9 l e9 { frames := 2, cells := 0, slots := 0, locals := 43 } s9 m9 a9 b9 me9 c9 D ad A9 5 (MQ b9 (va_Qi (PR ad ca (bI (cBeh S i (L.getD j 0))) S) (fun E' t => WW D ad CNT A9 E' t.heap) A9) a9 s9 0 0 A9) 0 0 CNT (SH ad ca (S)) 2 [(0, .ref (ad 0 0)), (1, .ref (ad 6 i)), (2, .int (nI j)), (3, .int (nI k))] [] := by
    intro n
    induction n with
    | zero => intro k h1; omega
    | succ n ih =>
      intro k h1 h2 hbef
      refine g_iload_n hB 3 dX5_isBehindIn_2 rfl rfl ?_
      refine g_bipush hB (nI 6) dX5_isBehindIn_3 rfl ?_
      refine n_icmp_ge hB k 6 48 dX5_isBehindIn_5 (by decide) (by omega) (by omega) (fun c_5 => ?_) (fun c_5 => ?_)
      · have hz : cBeh S i (L.getD j 0) = false := anyB_f (fun k hk => hbef k (by omega))
        refine g_iconst hB (nI 0) dX5_isBehindIn_48 rfl ?_
        exact g_iret hB hr rfl (Nat.le_of_ble_eq_true rfl) (Nat.le_of_ble_eq_true rfl) (⟨by rw [hz]; rfl, rfl⟩) dX5_isBehindIn_49
      · refine g_aload_n hB 1 dX5_isBehindIn_8 rfl rfl ?_
        refine g_iload_n hB 2 dX5_isBehindIn_9 rfl rfl ?_
        refine g_iload_n hB 3 dX5_isBehindIn_10 rfl rfl ?_
        refine g_callVI hB (c_X2_cellIn _ i hi L hL j hj k) k_X5_242 rfl yk_X2_cellIn ⟨Nat.le_of_ble_eq_true rfl, Nat.le_of_ble_eq_true rfl⟩ ⟨(show i < 12 by first | assumption | omega), _, _, _, rfl, rfl, rfl⟩ rfl (Nat.le_of_ble_eq_true rfl) ⟨Nat.le_of_ble_eq_true rfl, Nat.le_of_ble_eq_true rfl⟩ dX5_isBehindIn_11 ?_
        rintro _ _ ⟨rfl, rfl⟩
        refine g_istore hB 4 dX5_isBehindIn_14 (by decide) ?_
        refine g_aload_n hB 1 dX5_isBehindIn_16 rfl rfl ?_
        refine g_get (ci := 2) (T := TX2) (N := 6) hB in_X2 rfl 6 i 4 (show i < 12 by first | assumption | omega) (by decide) rfl tw_fl_X5_239 rfl dX5_isBehindIn_17 ?_
        refine g_iload hB 4 dX5_isBehindIn_20 rfl ?_
        refine g_callVI hB (c_X9_get8 _ i hi (L.getD j 0 * 6 + k) (by omega)) k_X5_223 rfl yk_X9_get ⟨Nat.le_of_ble_eq_true rfl, Nat.le_of_ble_eq_true rfl⟩ ⟨(show i < 12 by first | assumption | omega), _, _, _, rfl, rfl, rfl⟩ rfl (Nat.le_of_ble_eq_true rfl) ⟨Nat.le_of_ble_eq_true rfl, Nat.le_of_ble_eq_true rfl⟩ dX5_isBehindIn_22 ?_
        rintro _ _ ⟨rfl, rfl⟩
        refine g_aload_n hB 0 dX5_isBehindIn_25 rfl rfl ?_
        refine g_get (ci := 5) (T := TX5) (N := 16) hB in_X5 rfl 0 0 13 (by decide) (by decide) rfl tw_fl_X5_47 rfl dX5_isBehindIn_26 ?_
        refine g_get (ci := 1) (T := TX1) (N := 2) hB in_X1 rfl 12 0 0 (by decide) (by decide) rfl tw_fl_X5_219 rfl dX5_isBehindIn_29 ?_
        refine g_iload hB 4 dX5_isBehindIn_32 rfl ?_
        refine g_callVI hB (c_X9_get13 _ 0 (by decide) (L.getD j 0 * 6 + k) (by omega)) k_X5_223 rfl yk_X9_get ⟨Nat.le_of_ble_eq_true rfl, Nat.le_of_ble_eq_true rfl⟩ ⟨(by decide), _, _, _, rfl, rfl, rfl⟩ rfl (Nat.le_of_ble_eq_true rfl) ⟨Nat.le_of_ble_eq_true rfl, Nat.le_of_ble_eq_true rfl⟩ dX5_isBehindIn_34 ?_
        rintro _ _ ⟨rfl, rfl⟩
        refine g_icmp_eq hB 42 dX5_isBehindIn_37 (by decide) (fun c_37 => ?_) (fun c_37 => ?_)
        · refine g_iinc hB (nI (k + 1)) dX5_isBehindIn_42 rfl (nI_1 _) (by decide) ?_
          refine g_goto hB 2 dX5_isBehindIn_45 (by decide) ?_
          refine g_sub _ rfl (ih (k + 1) (by omega) (by omega) (fun q hq => ?_))
          rcases Nat.lt_or_ge q k with y | y
          · exact hbef q y
          · rw [show q = k by omega]; exact decide_eq_false (fun z => z c_37)
        · have hz : cBeh S i (L.getD j 0) = true := anyB_s (k := k) (decide_eq_true c_37) c_5
          refine g_iconst hB (nI 1) dX5_isBehindIn_40 rfl ?_
          exact g_iret hB hr rfl (Nat.le_of_ble_eq_true rfl) (Nat.le_of_ble_eq_true rfl) (⟨by rw [hz]; rfl, rfl⟩) dX5_isBehindIn_41
  refine g_iconst hB (nI 0) dX5_isBehindIn_0 rfl ?_
  refine g_istore_n hB 3 dX5_isBehindIn_1 rfl (by decide) ?_
  exact g_sub _ rfl (loop 7 0 (by omega) (by omega) (fun k hk => by omega))
theorem c_X5_takeLayer (S : Mem) (i : Nat) (hi : i < 12) (L : List Nat) (hL : MK S i L) (j : Nat) (hj : j < L.length) : CV l yX5_takeLayer cX5_takeLayer 5 none { frames := 2, cells := 0, slots := 0, locals := 43 } D ad CNT ca SR (SH ad ca S) [.ref (ad 0 0), .ref (ad 6 i), .int (nI j)] (PM ad ca (cTakeAt S i (L.getD j 0))) := by
  obtain ⟨ej, hsj⟩ := hL.2.2 j hj
  have hlen := hL.2.1
  refine CV.of _ RX5 (by decide +kernel) rfl (Nat.le_of_ble_eq_true rfl) ?_
  intro p9 e9 s9 m9 a9 b9 me9 c9 A9 hB hr hnm9
  have loop : ∀ (n k : Nat), 6 - k < n → k ≤ 6 → G p9 l e9 { frames := 2, cells := 0, slots := 0, locals := 43 } s9 m9 a9 b9 me9 c9 D ad A9 5 (MQ b9 (va_Qv (PM ad ca (cTakeAt S i (L.getD j 0))) (fun E' t => WW D ad CNT A9 E' t.heap) A9) a9 s9 0 0 A9) 0 0 CNT (SH ad ca (uS S 8 i (ovl (S 8 i) (L.getD j 0 * 6) k (fun k => S 13 0 (L.getD j 0 * 6 + k))))) 2 [(0, .ref (ad 0 0)), (1, .ref (ad 6 i)), (2, .int (nI j)), (3, .int (nI k))] [] := by
    intro n
    induction n with
    | zero => intro k h1; omega
    | succ n ih =>
      intro k h1 h2
      refine g_iload_n hB 3 dX5_takeLayer_2 rfl rfl ?_
      refine g_bipush hB (nI 6) dX5_takeLayer_3 rfl ?_
      refine n_icmp_ge hB k 6 43 dX5_takeLayer_5 (by decide) (by omega) (by omega) (fun c_5 => ?_) (fun c_5 => ?_)
      · have hk : k = 6 := by omega
        subst hk
        exact g_vret hB hr (Nat.le_of_ble_eq_true rfl) (Nat.le_of_ble_eq_true rfl) (rfl) dX5_takeLayer_43
      · have hL2 : MK (uS S 8 i (ovl (S 8 i) (L.getD j 0 * 6) k (fun k => S 13 0 (L.getD j 0 * 6 + k)))) i L := MK_fr rfl rfl hL
        refine g_aload_n hB 1 dX5_takeLayer_8 rfl rfl ?_
        refine g_iload_n hB 2 dX5_takeLayer_9 rfl rfl ?_
        refine g_iload_n hB 3 dX5_takeLayer_10 rfl rfl ?_
        refine g_callVI hB (c_X2_cellIn _ i hi L hL2 j hj k) k_X5_242 rfl yk_X2_cellIn ⟨Nat.le_of_ble_eq_true rfl, Nat.le_of_ble_eq_true rfl⟩ ⟨(show i < 12 by first | assumption | omega), _, _, _, rfl, rfl, rfl⟩ rfl (Nat.le_of_ble_eq_true rfl) ⟨Nat.le_of_ble_eq_true rfl, Nat.le_of_ble_eq_true rfl⟩ dX5_takeLayer_11 ?_
        rintro _ _ ⟨rfl, rfl⟩
        refine g_istore hB 4 dX5_takeLayer_14 (by decide) ?_
        refine g_aload_n hB 1 dX5_takeLayer_16 rfl rfl ?_
        refine g_get (ci := 2) (T := TX2) (N := 6) hB in_X2 rfl 6 i 4 (show i < 12 by first | assumption | omega) (by decide) rfl tw_fl_X5_239 rfl dX5_takeLayer_17 ?_
        refine g_iload hB 4 dX5_takeLayer_20 rfl ?_
        refine g_aload_n hB 0 dX5_takeLayer_22 rfl rfl ?_
        refine g_get (ci := 5) (T := TX5) (N := 16) hB in_X5 rfl 0 0 13 (by decide) (by decide) rfl tw_fl_X5_47 rfl dX5_takeLayer_23 ?_
        refine g_get (ci := 1) (T := TX1) (N := 2) hB in_X1 rfl 12 0 0 (by decide) (by decide) rfl tw_fl_X5_219 rfl dX5_takeLayer_26 ?_
        refine g_iload hB 4 dX5_takeLayer_29 rfl ?_
        refine g_callVI hB (c_X9_get13 _ 0 (by decide) (L.getD j 0 * 6 + k) (by omega)) k_X5_223 rfl yk_X9_get ⟨Nat.le_of_ble_eq_true rfl, Nat.le_of_ble_eq_true rfl⟩ ⟨(by decide), _, _, _, rfl, rfl, rfl⟩ rfl (Nat.le_of_ble_eq_true rfl) ⟨Nat.le_of_ble_eq_true rfl, Nat.le_of_ble_eq_true rfl⟩ dX5_takeLayer_31 ?_
        rintro _ _ ⟨rfl, rfl⟩
        refine g_callVV hB (c_X9_set8 _ i hi (L.getD j 0 * 6 + k) (by omega) _) k_X5_328 rfl yk_X9_set ⟨Nat.le_of_ble_eq_true rfl, Nat.le_of_ble_eq_true rfl⟩ ⟨(show i < 12 by first | assumption | omega), _, _, _, rfl, rfl, rfl⟩ rfl (Nat.le_of_ble_eq_true rfl) ⟨Nat.le_of_ble_eq_true rfl, Nat.le_of_ble_eq_true rfl⟩ dX5_takeLayer_34 ?_
        rintro _ rfl
        refine g_iinc hB (nI (k + 1)) dX5_takeLayer_37 rfl (nI_1 _) (by decide) ?_
        refine g_goto hB 2 dX5_takeLayer_40 (by decide) ?_
        refine s_eq _ ?_ (g_sub _ rfl (ih (k + 1) (by omega) (by omega)))
        rw [uM_uS]
        exact congrArg (uS S 8 i) ovl_s
  refine g_iconst hB (nI 0) dX5_takeLayer_0 rfl ?_
  refine g_istore_n hB 3 dX5_takeLayer_1 rfl (by decide) ?_
  refine s_eq _ ?_ (g_sub _ rfl (loop 7 0 (by omega) (by omega)))
  rw [ovl_0, uS_self]
theorem c_X5_takeFarthestLayer (S : Mem) (i : Nat) (hi : i < 12) (L : List Nat) (hL : MK S i L) : CI l yX5_takeFarthestLayer cX5_takeFarthestLayer 3 (some .boolean) { frames := 3, cells := 0, slots := 0, locals := 67 } D ad CNT ca SR (SH ad ca S) [.ref (ad 0 0), .ref (ad 6 i)] (PR ad ca (bI (decide (cFar S i L ≠ 0))) (cTake S i L)) := by
  have hlen := hL.2.1
  refine CI.of _ RX5 (by decide +kernel) rfl (Nat.le_of_ble_eq_true rfl) ?_
  intro p9 e9 s9 m9 a9 b9 me9 c9 A9 hB hr hnm9
  have loop : ∀ (n : Nat), n ≤ L.length → cFar S i L = farN (fun j => cBeh S i (L.getD j 0)) n → G p9 l e9 { frames := 3, cells := 0, slots := 0, locals := 67 } s9 m9 a9 b9 me9 c9 D ad A9 3 (MQ b9 (va_Qi (PR ad ca (bI (decide (cFar S i L ≠ 0))) (cTake S i L)) (fun E' t => WW D ad CNT A9 E' t.heap) A9) a9 s9 0 0 A9) 0 0 CNT (SH ad ca (S)) 7 [(0, .ref (ad 0 0)), (1, .ref (ad 6 i)), (2, .int (lI n))] [] := by
    intro n
    induction n with
    | zero =>
      intro h1 h2
      have h3 : cFar S i L = 0 := h2
      refine g_iload_n hB 2 dX5_takeFarthestLayer_7 rfl rfl ?_
      refine g_if_lt hB 34 dX5_takeFarthestLayer_8 (by decide) (fun c_8 => ?_) (fun c_8 => ?_)
      · refine g_iconst hB (nI 0) dX5_takeFarthestLayer_34 rfl ?_
        exact g_iret hB hr rfl (Nat.le_of_ble_eq_true rfl) (Nat.le_of_ble_eq_true rfl) (⟨by rw [h3]; rfl, by rw [cTake, h3]⟩) dX5_takeFarthestLayer_35
      · exact absurd (by decide) c_8
    | succ n ih =>
      intro h1 h2
      refine g_iload_n hB 2 dX5_takeFarthestLayer_7 rfl rfl ?_
      refine n_if_lt (tgt := 34) hB _ dX5_takeFarthestLayer_8 (by decide) (by omega) ?_
      refine g_aload_n hB 0 dX5_takeFarthestLayer_11 rfl rfl ?_
      refine g_aload_n hB 1 dX5_takeFarthestLayer_12 rfl rfl ?_
      refine g_iload_n hB 2 dX5_takeFarthestLayer_13 rfl rfl ?_
      refine g_callVI hB (c_X5_isBehindIn _ i hi L hL n (by omega)) k_X5_265 rfl yk_X5_isBehindIn ⟨Nat.le_of_ble_eq_true rfl, Nat.le_of_ble_eq_true rfl⟩ ⟨(by decide), _, _, _, rfl, rfl, rfl⟩ rfl (Nat.le_of_ble_eq_true rfl) ⟨Nat.le_of_ble_eq_true rfl, Nat.le_of_ble_eq_true rfl⟩ dX5_takeFarthestLayer_14 ?_
      rintro _ _ ⟨rfl, rfl⟩
      refine b_if_eq hB (cBeh S i (L.getD n 0)) 28 dX5_takeFarthestLayer_17 (by decide) (fun c_17 => ?_) (fun c_17 => ?_)
      · have h3 : cFar S i L = farN (fun j => cBeh S i (L.getD j 0)) n := by rw [h2, farN]; simp only [c_17]; rfl
        refine g_iinc hB ((lI n)) dX5_takeFarthestLayer_28 rfl (lI_pred n) (by decide) ?_
        refine g_goto hB 7 dX5_takeFarthestLayer_31 (by decide) ?_
        exact g_sub _ rfl (ih (by omega) h3)
      · have h3 : cFar S i L = n + 1 := by rw [h2, farN]; simp only [c_17]; rfl
        refine g_aload_n hB 0 dX5_takeFarthestLayer_20 rfl rfl ?_
        refine g_aload_n hB 1 dX5_takeFarthestLayer_21 rfl rfl ?_
        refine g_iload_n hB 2 dX5_takeFarthestLayer_22 rfl rfl ?_
        refine g_callVV hB (c_X5_takeLayer _ i hi L hL n (by omega)) k_X5_331 rfl yk_X5_takeLayer ⟨Nat.le_of_ble_eq_true rfl, Nat.le_of_ble_eq_true rfl⟩ ⟨(by decide), _, _, _, rfl, rfl, rfl⟩ rfl (Nat.le_of_ble_eq_true rfl) ⟨Nat.le_of_ble_eq_true rfl, Nat.le_of_ble_eq_true rfl⟩ dX5_takeFarthestLayer_23 ?_
        rintro _ rfl
        refine g_iconst hB (nI 1) dX5_takeFarthestLayer_26 rfl ?_
        exact g_iret hB hr rfl (Nat.le_of_ble_eq_true rfl) (Nat.le_of_ble_eq_true rfl) (⟨by rw [h3]; rfl, by rw [cTake, h3]⟩) dX5_takeFarthestLayer_27
  refine g_aload_n hB 1 dX5_takeFarthestLayer_0 rfl rfl ?_
  refine g_get (ci := 2) (T := TX2) (N := 6) hB in_X2 rfl 6 i 3 (show i < 12 by first | assumption | omega) (by decide) rfl tw_fl_X5_262 rfl dX5_takeFarthestLayer_1 ?_
  refine g_top (nI (L.length)) (hL.1) ?_
  refine g_iconst hB (nI 1) dX5_takeFarthestLayer_4 rfl ?_
  refine g_isub hB dX5_takeFarthestLayer_5 ?_
  refine g_top ((lI L.length)) (lI_sub _) ?_
  refine g_istore_n hB 2 dX5_takeFarthestLayer_6 rfl (by decide) ?_
  exact g_sub _ rfl (loop _ (Nat.le_refl _) rfl)
theorem c_X5_goBack (S : Mem) (nc : Nat) (hc : S 0 0 9 = nI nc) (hnc : nc ≤ 40) (i : Nat) (hi : i < 12) (L : List Nat) (hL : MK S i L) (j : Nat) (hj : j < L.length) : CV l yX5_goBack cX5_goBack 5 none { frames := 2, cells := 0, slots := 0, locals := 43 } D ad CNT ca SR (SH ad ca S) [.ref (ad 0 0), .ref (ad 6 i), .int (nI j)] (PM ad ca (cBackAt S nc i (L.getD j 0))) := by
  obtain ⟨ej, hsj⟩ := hL.2.2 j hj
  have hlen := hL.2.1
  refine CV.of _ RX5 (by decide +kernel) rfl (Nat.le_of_ble_eq_true rfl) ?_
  intro p9 e9 s9 m9 a9 b9 me9 c9 A9 hB hr hnm9
  have loop : ∀ (n k : Nat), 6 - k < n → k ≤ 6 → G p9 l e9 { frames := 2, cells := 0, slots := 0, locals := 43 } s9 m9 a9 b9 me9 c9 D ad A9 5 (MQ b9 (va_Qv (PM ad ca (cBackAt S nc i (L.getD j 0))) (fun E' t => WW D ad CNT A9 E' t.heap) A9) a9 s9 0 0 A9) 0 0 CNT (SH ad ca (uS S 8 i (cgbV S nc i (L.getD j 0) k))) 2 [(0, .ref (ad 0 0)), (1, .ref (ad 6 i)), (2, .int (nI j)), (3, .int (nI k))] [] := by
    intro n
    induction n with
    | zero => intro k h1; omega
    | succ n ih =>
      intro k h1 h2
      refine g_iload_n hB 3 dX5_goBack_2 rfl rfl ?_
      refine g_bipush hB (nI 6) dX5_goBack_3 rfl ?_
      refine n_icmp_ge hB k 6 59 dX5_goBack_5 (by decide) (by omega) (by omega) (fun c_5 => ?_) (fun c_5 => ?_)
      · have hk : k = 6 := by omega
        subst hk
        exact g_vret hB hr (Nat.le_of_ble_eq_true rfl) (Nat.le_of_ble_eq_true rfl) (rfl) dX5_goBack_59
      · have hL2 : MK (uS S 8 i (cgbV S nc i (L.getD j 0) k)) i L := MK_fr rfl rfl hL
        refine g_aload_n hB 1 dX5_goBack_8 rfl rfl ?_
        refine g_iload_n hB 2 dX5_goBack_9 rfl rfl ?_
        refine g_iload_n hB 3 dX5_goBack_10 rfl rfl ?_
        refine g_callVI hB (c_X2_cellIn _ i hi L hL2 j hj k) k_X5_242 rfl yk_X2_cellIn ⟨Nat.le_of_ble_eq_true rfl, Nat.le_of_ble_eq_true rfl⟩ ⟨(show i < 12 by first | assumption | omega), _, _, _, rfl, rfl, rfl⟩ rfl (Nat.le_of_ble_eq_true rfl) ⟨Nat.le_of_ble_eq_true rfl, Nat.le_of_ble_eq_true rfl⟩ dX5_goBack_11 ?_
        rintro _ _ ⟨rfl, rfl⟩
        refine g_istore hB 4 dX5_goBack_14 (by decide) ?_
        refine g_aload_n hB 0 dX5_goBack_16 rfl rfl ?_
        refine g_aload_n hB 1 dX5_goBack_17 rfl rfl ?_
        refine g_get (ci := 2) (T := TX2) (N := 6) hB in_X2 rfl 6 i 4 (show i < 12 by first | assumption | omega) (by decide) rfl tw_fl_X5_239 rfl dX5_goBack_18 ?_
        refine g_iload hB 4 dX5_goBack_21 rfl ?_
        refine g_callVI hB (c_X9_get8 _ i hi (L.getD j 0 * 6 + k) (by omega)) k_X5_223 rfl yk_X9_get ⟨Nat.le_of_ble_eq_true rfl, Nat.le_of_ble_eq_true rfl⟩ ⟨(show i < 12 by first | assumption | omega), _, _, _, rfl, rfl, rfl⟩ rfl (Nat.le_of_ble_eq_true rfl) ⟨Nat.le_of_ble_eq_true rfl, Nat.le_of_ble_eq_true rfl⟩ dX5_goBack_23 ?_
        rintro _ _ ⟨rfl, rfl⟩
        refine g_top ((S 8 i (L.getD j 0 * 6 + k))) (by rw [uS_s]; exact cgbV_at) ?_
        refine g_callVI hB (c_X5_isTakenNotHeld _ _ nc hc hnc) k_X5_325 rfl yk_X5_isTakenNotHeld ⟨Nat.le_of_ble_eq_true rfl, Nat.le_of_ble_eq_true rfl⟩ ⟨(by decide), _, _, _, rfl, rfl, rfl⟩ rfl (Nat.le_of_ble_eq_true rfl) ⟨Nat.le_of_ble_eq_true rfl, Nat.le_of_ble_eq_true rfl⟩ dX5_goBack_26 ?_
        rintro _ _ ⟨rfl, rfl⟩
        refine b_if_eq hB (cNh S nc (S 8 i (L.getD j 0 * 6 + k))) 53 dX5_goBack_29 (by decide) (fun c_29 => ?_) (fun c_29 => ?_)
        · have hm : uS S 8 i (cgbV S nc i (L.getD j 0) k) = uS S 8 i (cgbV S nc i (L.getD j 0) (k + 1)) := congrArg (uS S 8 i) (cgbV_f c_29)
          refine g_iinc hB (nI (k + 1)) dX5_goBack_53 rfl (nI_1 _) (by decide) ?_
          refine g_goto hB 2 dX5_goBack_56 (by decide) ?_
          exact s_eq _ hm (g_sub _ rfl (ih (k + 1) (by omega) (by omega)))
        · have hm : uM (uS S 8 i (cgbV S nc i (L.getD j 0) k)) 8 i (L.getD j 0 * 6 + k) (S 13 0 (L.getD j 0 * 6 + k)) = uS S 8 i (cgbV S nc i (L.getD j 0) (k + 1)) := by rw [uM_uS]; exact congrArg (uS S 8 i) (cgbV_t c_29)
          refine g_aload_n hB 1 dX5_goBack_32 rfl rfl ?_
          refine g_get (ci := 2) (T := TX2) (N := 6) hB in_X2 rfl 6 i 4 (show i < 12 by first | assumption | omega) (by decide) rfl tw_fl_X5_239 rfl dX5_goBack_33 ?_
          refine g_iload hB 4 dX5_goBack_36 rfl ?_
          refine g_aload_n hB 0 dX5_goBack_38 rfl rfl ?_
          refine g_get (ci := 5) (T := TX5) (N := 16) hB in_X5 rfl 0 0 13 (by decide) (by decide) rfl tw_fl_X5_47 rfl dX5_goBack_39 ?_
          refine g_get (ci := 1) (T := TX1) (N := 2) hB in_X1 rfl 12 0 0 (by decide) (by decide) rfl tw_fl_X5_219 rfl dX5_goBack_42 ?_
          refine g_iload hB 4 dX5_goBack_45 rfl ?_
          refine g_callVI hB (c_X9_get13 _ 0 (by decide) (L.getD j 0 * 6 + k) (by omega)) k_X5_223 rfl yk_X9_get ⟨Nat.le_of_ble_eq_true rfl, Nat.le_of_ble_eq_true rfl⟩ ⟨(by decide), _, _, _, rfl, rfl, rfl⟩ rfl (Nat.le_of_ble_eq_true rfl) ⟨Nat.le_of_ble_eq_true rfl, Nat.le_of_ble_eq_true rfl⟩ dX5_goBack_47 ?_
          rintro _ _ ⟨rfl, rfl⟩
          refine g_callVV hB (c_X9_set8 _ i hi (L.getD j 0 * 6 + k) (by omega) _) k_X5_328 rfl yk_X9_set ⟨Nat.le_of_ble_eq_true rfl, Nat.le_of_ble_eq_true rfl⟩ ⟨(show i < 12 by first | assumption | omega), _, _, _, rfl, rfl, rfl⟩ rfl (Nat.le_of_ble_eq_true rfl) ⟨Nat.le_of_ble_eq_true rfl, Nat.le_of_ble_eq_true rfl⟩ dX5_goBack_50 ?_
          rintro _ rfl
          refine g_iinc hB (nI (k + 1)) dX5_goBack_53 rfl (nI_1 _) (by decide) ?_
          refine g_goto hB 2 dX5_goBack_56 (by decide) ?_
          exact s_eq _ hm (g_sub _ rfl (ih (k + 1) (by omega) (by omega)))
  refine g_iconst hB (nI 0) dX5_goBack_0 rfl ?_
  refine g_istore_n hB 3 dX5_goBack_1 rfl (by decide) ?_
  refine s_eq _ ?_ (g_sub _ rfl (loop 7 0 (by omega) (by omega)))
  rw [cgbV_0, uS_self]
theorem c_X5_isAnyBusy (S : Mem) (nm : Nat) (hm : S 0 0 7 = nI nm) (hnm : nm ≤ 12) : CI l yX5_isAnyBusy cX5_isAnyBusy 2 (some .boolean) { frames := 0, cells := 0, slots := 0, locals := 0 } D ad CNT ca SR (SH ad ca S) [.ref (ad 0 0)] (PR ad ca (bI (cBusy S nm)) S) := by
  refine CI.of _ RX5 (by decide +kernel) rfl (Nat.le_of_ble_eq_true rfl) ?_
  intro p9 e9 s9 m9 a9 b9 me9 c9 A9 hB hr hnm9
  have loop : ∀ (n i : Nat), nm - i < n → i ≤ nm → (∀ k, k < i → decide (S 0 0 0 < S 6 k 2) = false) → G p9 l e9 { frames := 0, cells := 0, slots := 0, locals := 0 } s9 m9 a9 b9 me9 c9 D ad A9 2 (MQ b9 (va_Qi (PR ad ca (bI (cBusy S nm)) S) (fun E' t => WW D ad CNT A9 E' t.heap) A9) a9 s9 0 0 A9) 0 0 CNT (SH ad ca (S)) 2 [(0, .ref (ad 0 0)), (1, .int (nI i))] [] := by
    intro n
    induction n with
    | zero => intro k h1; omega
    | succ n ih =>
      intro i h1 h2 hbef
      refine g_iload_n hB 1 dX5_isAnyBusy_2 rfl rfl ?_
      refine g_aload_n hB 0 dX5_isAnyBusy_3 rfl rfl ?_
      refine g_get (ci := 5) (T := TX5) (N := 16) hB in_X5 rfl 0 0 7 (by decide) (by decide) rfl tw_fl_X5_127 rfl dX5_isAnyBusy_4 ?_
      refine g_top (nI nm) (hm) ?_
      refine n_icmp_ge hB i nm 34 dX5_isAnyBusy_7 (by decide) (by omega) (by omega) (fun c_7 => ?_) (fun c_7 => ?_)
      · have hz : cBusy S nm = false := anyB_f (fun k hk => hbef k (by omega))
        refine g_iconst hB (nI 0) dX5_isAnyBusy_34 rfl ?_
        exact g_iret hB hr rfl (Nat.le_of_ble_eq_true rfl) (Nat.le_of_ble_eq_true rfl) (⟨by rw [hz]; rfl, rfl⟩) dX5_isAnyBusy_35
      · refine g_aload_n hB 0 dX5_isAnyBusy_10 rfl rfl ?_
        refine g_get (ci := 5) (T := TX5) (N := 16) hB in_X5 rfl 0 0 6 (by decide) (by decide) rfl tw_fl_X5_31 rfl dX5_isAnyBusy_11 ?_
        refine g_iload_n hB 1 dX5_isAnyBusy_14 rfl rfl ?_
        refine g_aald hB 3 0 i 2 (n := 12) (by decide) rfl rfl (by first | assumption | omega) (Nat.le_of_ble_eq_true rfl) rfl dX5_isAnyBusy_15 ?_
        refine g_get (ci := 2) (T := TX2) (N := 6) hB in_X2 rfl 6 i 2 (show i < 12 by first | assumption | omega) (by decide) rfl tw_fl_X5_139 rfl dX5_isAnyBusy_16 ?_
        refine g_aload_n hB 0 dX5_isAnyBusy_19 rfl rfl ?_
        refine g_get (ci := 5) (T := TX5) (N := 16) hB in_X5 rfl 0 0 0 (by decide) (by decide) rfl tw_fl_X5_97 rfl dX5_isAnyBusy_20 ?_
        refine g_icmp_le hB 28 dX5_isAnyBusy_23 (by decide) (fun c_23 => ?_) (fun c_23 => ?_)
        · refine g_iinc hB (nI (i + 1)) dX5_isAnyBusy_28 rfl (nI_1 _) (by decide) ?_
          refine g_goto hB 2 dX5_isAnyBusy_31 (by decide) ?_
          refine g_sub _ rfl (ih (i + 1) (by omega) (by omega) (fun q hq => ?_))
          rcases Nat.lt_or_ge q i with y | y
          · exact hbef q y
          · rw [show q = i by omega]; exact decide_eq_false (Int32.not_lt.mpr c_23)
        · have hz : cBusy S nm = true := anyB_s (k := i) (decide_eq_true (Int32.not_le.mp c_23)) c_7
          refine g_iconst hB (nI 1) dX5_isAnyBusy_26 rfl ?_
          exact g_iret hB hr rfl (Nat.le_of_ble_eq_true rfl) (Nat.le_of_ble_eq_true rfl) (⟨by rw [hz]; rfl, rfl⟩) dX5_isAnyBusy_27
  refine g_iconst hB (nI 0) dX5_isAnyBusy_0 rfl ?_
  refine g_istore_n hB 1 dX5_isAnyBusy_1 rfl (by decide) ?_
  exact g_sub _ rfl (loop (nm + 1) 0 (by omega) (by omega) (fun k hk => by omega))
theorem c_X5_stepMachines (S : Mem) (ng nm nc t pa : Nat) (h : KI S ng nm nc t pa) : CI l yX5_stepMachines cX5_stepMachines 6 (some .int) { frames := 4, cells := 0, slots := 0, locals := 89 } D ad CNT ca SR (SH ad ca S) [.ref (ad 0 0)] (PR ad ca (nI (cDay S nc nm pa).2) (cDay S nc nm pa).1) := by
  have hnm := h.2.1.2
  have hnc := h.2.2.1.2
  have hpa := h.2.2.2.2.1.2
  refine CI.of _ RX5 (by decide +kernel) rfl (Nat.le_of_ble_eq_true rfl) ?_
  intro p9 e9 s9 m9 a9 b9 me9 c9 A9 hB hr hnm9
  have loop : ∀ (n i : Nat) (q : Mem × Nat × Nat), nm - i < n → i ≤ nm → q = cSts nc pa (S, 0, 0) i → q.2.1 ≤ pa → G p9 l e9 { frames := 4, cells := 0, slots := 0, locals := 89 } s9 m9 a9 b9 me9 c9 D ad A9 6 (MQ b9 (va_Qi (PR ad ca (nI (cDay S nc nm pa).2) (cDay S nc nm pa).1) (fun E' t => WW D ad CNT A9 E' t.heap) A9) a9 s9 0 0 A9) 0 0 CNT (SH ad ca (q.1)) 6 [(0, .ref (ad 0 0)), (1, .int (nI (q.2.2))), (2, .int (nI (q.2.1))), (3, .int (nI i))] [] := by
    intro n
    induction n with
    | zero => intro i q h1; omega
    | succ n ih =>
      intro i q h1 h2 hq hle
      have hK : KI q.1 ng nm nc t pa := by rw [hq]; exact KI_sts (S := S) (q := (S, 0, 0)) h i
      have hih : i < nm → ∀ q', q' = cSt nc pa q i → G p9 l e9 { frames := 4, cells := 0, slots := 0, locals := 89 } s9 m9 a9 b9 me9 c9 D ad A9 6 (MQ b9 (va_Qi (PR ad ca (nI (cDay S nc nm pa).2) (cDay S nc nm pa).1) (fun E' t => WW D ad CNT A9 E' t.heap) A9) a9 s9 0 0 A9) 0 0 CNT (SH ad ca (q'.1)) 6 [(0, .ref (ad 0 0)), (1, .int (nI (q'.2.2))), (2, .int (nI (q'.2.1))), (3, .int (nI (i + 1)))] [] := fun hlt q' hq' => ih (i + 1) q' (by omega) (by omega) (by rw [hq', hq]; rfl) (by rw [hq']; exact cSt_le hle)
      refine g_iload_n hB 3 dX5_stepMachines_6 rfl rfl ?_
      refine g_aload_n hB 0 dX5_stepMachines_7 rfl rfl ?_
      refine g_get (ci := 5) (T := TX5) (N := 16) hB in_X5 rfl 0 0 7 (by decide) (by decide) rfl tw_fl_X5_127 rfl dX5_stepMachines_8 ?_
      refine g_top (nI nm) (hK.2.1.1) ?_
      refine n_icmp_ge hB i nm 91 dX5_stepMachines_11 (by decide) (by omega) (by omega) (fun c_11 => ?_) (fun c_11 => ?_)
      · have hk : i = nm := by omega
        subst hk
        refine g_iload_n hB 1 dX5_stepMachines_91 rfl rfl ?_
        exact g_iret hB hr rfl (Nat.le_of_ble_eq_true rfl) (Nat.le_of_ble_eq_true rfl) (⟨by simp only [cDay, ← hq], by simp only [cDay, ← hq]⟩) dX5_stepMachines_92
      · have hL := hK.2.2.2.2.2.2.1 i c_11
        refine g_aload_n hB 0 dX5_stepMachines_14 rfl rfl ?_
        refine g_get (ci := 5) (T := TX5) (N := 16) hB in_X5 rfl 0 0 6 (by decide) (by decide) rfl tw_fl_X5_31 rfl dX5_stepMachines_15 ?_
        refine g_iload_n hB 3 dX5_stepMachines_18 rfl rfl ?_
        refine g_aald hB 3 0 i 2 (n := 12) (by decide) rfl rfl (by first | assumption | omega) (Nat.le_of_ble_eq_true rfl) rfl dX5_stepMachines_19 ?_
        refine g_astore hB 4 dX5_stepMachines_20 (by decide) ?_
        refine g_aload_n hB 0 dX5_stepMachines_22 rfl rfl ?_
        refine g_aload hB 4 dX5_stepMachines_23 rfl ?_
        refine g_callVI hB (c_X5_nearestLayerNotHeld _ nc hK.2.2.1.1 hnc i (by omega) _ hL) k_X5_147 rfl yk_X5_nearestLayerNotHeld ⟨Nat.le_of_ble_eq_true rfl, Nat.le_of_ble_eq_true rfl⟩ ⟨(by decide), _, _, _, rfl, rfl, rfl⟩ rfl (Nat.le_of_ble_eq_true rfl) ⟨Nat.le_of_ble_eq_true rfl, Nat.le_of_ble_eq_true rfl⟩ dX5_stepMachines_25 ?_
        rintro _ _ ⟨rfl, rfl⟩
        refine g_istore hB 5 dX5_stepMachines_28 (by decide) ?_
        refine g_iload hB 5 dX5_stepMachines_30 rfl ?_
        refine g_iconst hB (-1) dX5_stepMachines_32 rfl ?_
        refine g_icmp_eq hB 50 dX5_stepMachines_33 (by decide) (fun c_33 => ?_) (fun c_33 => ?_)
        · have e33 : cNear q.1 nc i (clay q.1 i) = none := (oI_m1 (fun c hc => by have := (fstN_some.mp hc).1; have := hL.2.1; omega)).mp c_33
          refine g_aload hB 4 dX5_stepMachines_50 rfl ?_
          refine g_get (ci := 2) (T := TX2) (N := 6) hB in_X2 rfl 6 i 2 (show i < 12 by first | assumption | omega) (by decide) rfl tw_fl_X5_139 rfl dX5_stepMachines_52 ?_
          refine g_aload_n hB 0 dX5_stepMachines_55 rfl rfl ?_
          refine g_get (ci := 5) (T := TX5) (N := 16) hB in_X5 rfl 0 0 0 (by decide) (by decide) rfl tw_fl_X5_97 rfl dX5_stepMachines_56 ?_
          refine g_icmp_gt hB 85 dX5_stepMachines_59 (by decide) (fun c_59 => ?_) (fun c_59 => ?_)
          · refine g_iinc hB (nI (i + 1)) dX5_stepMachines_85 rfl (nI_1 _) (by decide) ?_
            refine g_goto hB 6 dX5_stepMachines_88 (by decide) ?_
            have e : cSt nc pa q i = q := by unfold cSt; rw [e33]; simp only [decide_eq_true c_59]; rfl
            exact g_sub _ rfl (hih c_11 q e.symm)
          · refine g_iload_n hB 2 dX5_stepMachines_62 rfl rfl ?_
            refine g_aload_n hB 0 dX5_stepMachines_63 rfl rfl ?_
            refine g_get (ci := 5) (T := TX5) (N := 16) hB in_X5 rfl 0 0 1 (by decide) (by decide) rfl tw_fl_X5_9 rfl dX5_stepMachines_64 ?_
            refine g_top (nI pa) (hK.2.2.2.2.1.1) ?_
            refine n_icmp_ge hB (q.2.1) pa 85 dX5_stepMachines_67 (by decide) (by omega) (by omega) (fun c_67 => ?_) (fun c_67 => ?_)
            · refine g_iinc hB (nI (i + 1)) dX5_stepMachines_85 rfl (nI_1 _) (by decide) ?_
              refine g_goto hB 6 dX5_stepMachines_88 (by decide) ?_
              have e : cSt nc pa q i = q := by unfold cSt; rw [e33]; simp only [decide_eq_false c_59, decide_eq_true c_67]; rfl
              exact g_sub _ rfl (hih c_11 q e.symm)
            · refine g_aload_n hB 0 dX5_stepMachines_70 rfl rfl ?_
              refine g_aload hB 4 dX5_stepMachines_71 rfl ?_
              refine g_callVI hB (c_X5_takeFarthestLayer _ i (by omega) _ hL) k_X5_321 rfl yk_X5_takeFarthestLayer ⟨Nat.le_of_ble_eq_true rfl, Nat.le_of_ble_eq_true rfl⟩ ⟨(by decide), _, _, _, rfl, rfl, rfl⟩ rfl (Nat.le_of_ble_eq_true rfl) ⟨Nat.le_of_ble_eq_true rfl, Nat.le_of_ble_eq_true rfl⟩ dX5_stepMachines_73 ?_
              rintro _ _ ⟨rfl, rfl⟩
              refine b_if_eq hB (decide (cFar q.1 i (clay q.1 i) ≠ 0)) 85 dX5_stepMachines_76 (by decide) (fun c_76 => ?_) (fun c_76 => ?_)
              · refine g_iinc hB (nI (i + 1)) dX5_stepMachines_85 rfl (nI_1 _) (by decide) ?_
                refine g_goto hB 6 dX5_stepMachines_88 (by decide) ?_
                have e : cSt nc pa q i = q := by unfold cSt; rw [e33]; simp only [decide_eq_false c_59, decide_eq_false (show ¬ pa ≤ q.2.1 by omega), c_76]; rfl
                have e2 : cTake q.1 i (clay q.1 i) = q.1 := by
                  unfold cTake
                  rw [Decidable.not_not.mp (of_decide_eq_false c_76)]
                exact s_eq _ e2 (g_sub _ rfl (hih c_11 q e.symm))
              · refine g_iinc hB (nI (q.2.1 + 1)) dX5_stepMachines_79 rfl (nI_1 _) (by decide) ?_
                refine g_iinc hB (nI (q.2.2 + 1)) dX5_stepMachines_82 rfl (nI_1 _) (by decide) ?_
                refine g_iinc hB (nI (i + 1)) dX5_stepMachines_85 rfl (nI_1 _) (by decide) ?_
                refine g_goto hB 6 dX5_stepMachines_88 (by decide) ?_
                have e : cSt nc pa q i = (cTake q.1 i (clay q.1 i), q.2.1 + 1, q.2.2 + 1) := by unfold cSt; rw [e33]; simp only [decide_eq_false c_59, decide_eq_false (show ¬ pa ≤ q.2.1 by omega), c_76]; rfl
                exact g_sub _ rfl (hih c_11 (_, _, _) e.symm)
        · obtain ⟨j, e33⟩ : ∃ j, cNear q.1 nc i (clay q.1 i) = some j := by
            cases hd : cNear q.1 nc i (clay q.1 i) with
            | none => rw [hd] at c_33; exact absurd rfl c_33
            | some d => exact ⟨d, rfl⟩
          have hjl := (fstN_some.mp e33).1
          have hlen := hL.2.1
          rw [e33]
          refine g_aload_n hB 0 dX5_stepMachines_36 rfl rfl ?_
          refine g_aload hB 4 dX5_stepMachines_37 rfl ?_
          refine g_iload hB 5 dX5_stepMachines_39 rfl ?_
          refine g_callVV hB (c_X5_goBack _ nc hK.2.2.1.1 hnc i (by omega) _ hL j hjl) k_X5_317 rfl yk_X5_goBack ⟨Nat.le_of_ble_eq_true rfl, Nat.le_of_ble_eq_true rfl⟩ ⟨(by decide), _, _, _, rfl, rfl, rfl⟩ rfl (Nat.le_of_ble_eq_true rfl) ⟨Nat.le_of_ble_eq_true rfl, Nat.le_of_ble_eq_true rfl⟩ dX5_stepMachines_41 ?_
          rintro _ rfl
          refine g_iinc hB (nI (q.2.2 + 1)) dX5_stepMachines_44 rfl (nI_1 _) (by decide) ?_
          refine g_goto hB 85 dX5_stepMachines_47 (by decide) ?_
          refine g_iinc hB (nI (i + 1)) dX5_stepMachines_85 rfl (nI_1 _) (by decide) ?_
          refine g_goto hB 6 dX5_stepMachines_88 (by decide) ?_
          have e : cSt nc pa q i = (cBackAt q.1 nc i ((clay q.1 i).getD j 0), q.2.1, q.2.2 + 1) := by unfold cSt; rw [e33]
          exact g_sub _ rfl (hih c_11 (_, _, _) e.symm)
  refine g_iconst hB (nI 0) dX5_stepMachines_0 rfl ?_
  refine g_istore_n hB 1 dX5_stepMachines_1 rfl (by decide) ?_
  refine g_iconst hB (nI 0) dX5_stepMachines_2 rfl ?_
  refine g_istore_n hB 2 dX5_stepMachines_3 rfl (by decide) ?_
  refine g_iconst hB (nI 0) dX5_stepMachines_4 rfl ?_
  refine g_istore_n hB 3 dX5_stepMachines_5 rfl (by decide) ?_
  exact g_sub _ rfl (loop (nm + 1) 0 (S, 0, 0) (by omega) (by omega) rfl (Nat.zero_le _))
theorem c_X2_isAmongLayers (S : Mem) (i : Nat) (hi : i < 12) (L : List Nat) (hL : MK S i L) (s : Nat) (hs : s < 2 ^ 31) : CI l yX2_isAmongLayers cX2_isAmongLayers 3 (some .boolean) { frames := 0, cells := 0, slots := 0, locals := 0 } D ad CNT ca SR (SH ad ca S) [.ref (ad 6 i), .int (nI s)] (PR ad ca (bI (decide (s ∈ L))) S) := by
  have hlen := hL.2.1
  rw [← MK_any hL hs]
  refine CI.of _ RX2 (by decide +kernel) rfl (Nat.le_of_ble_eq_true rfl) ?_
  intro p9 e9 s9 m9 a9 b9 me9 c9 A9 hB hr hnm9
  have loop : ∀ (n j : Nat), L.length - j < n → j ≤ L.length → (∀ k, k < j → decide (S 7 i k = nI s) = false) → G p9 l e9 { frames := 0, cells := 0, slots := 0, locals := 0 } s9 m9 a9 b9 me9 c9 D ad A9 3 (MQ b9 (va_Qi (PR ad ca (bI (anyB (fun j => decide (S 7 i j = nI s)) L.length)) S) (fun E' t => WW D ad CNT A9 E' t.heap) A9) a9 s9 0 0 A9) 0 0 CNT (SH ad ca (S)) 2 [(0, .ref (ad 6 i)), (1, .int (nI s)), (2, .int (nI j))] [] := by
    intro n
    induction n with
    | zero => intro k h1; omega
    | succ n ih =>
      intro j h1 h2 hbef
      refine g_iload_n hB 2 dX2_isAmongLayers_2 rfl rfl ?_
      refine g_aload_n hB 0 dX2_isAmongLayers_3 rfl rfl ?_
      refine g_get (ci := 2) (T := TX2) (N := 6) hB in_X2 rfl 6 i 3 (show i < 12 by first | assumption | omega) (by decide) rfl tw_fl_X2_29 rfl dX2_isAmongLayers_4 ?_
      refine g_top (nI (L.length)) (hL.1) ?_
      refine n_icmp_ge hB j (L.length) 28 dX2_isAmongLayers_7 (by decide) (by omega) (by omega) (fun c_7 => ?_) (fun c_7 => ?_)
      · have hz : anyB (fun j => decide (S 7 i j = nI s)) L.length = false := anyB_f (fun k hk => hbef k (by omega))
        refine g_iconst hB (nI 0) dX2_isAmongLayers_28 rfl ?_
        exact g_iret hB hr rfl (Nat.le_of_ble_eq_true rfl) (Nat.le_of_ble_eq_true rfl) (⟨by rw [hz]; rfl, rfl⟩) dX2_isAmongLayers_29
      · refine g_aload_n hB 0 dX2_isAmongLayers_10 rfl rfl ?_
        refine g_get (ci := 2) (T := TX2) (N := 6) hB in_X2 rfl 6 i 5 (show i < 12 by first | assumption | omega) (by decide) rfl tw_fl_X2_18 rfl dX2_isAmongLayers_11 ?_
        refine g_iload_n hB 2 dX2_isAmongLayers_14 rfl rfl ?_
        refine g_iald hB 7 i j (n := 11) (show i < 12 by first | assumption | omega) rfl (by first | assumption | omega) (Nat.le_of_ble_eq_true rfl) dX2_isAmongLayers_15 ?_
        refine g_iload_n hB 1 dX2_isAmongLayers_16 rfl rfl ?_
        refine g_icmp_ne hB 22 dX2_isAmongLayers_17 (by decide) (fun c_17 => ?_) (fun c_17 => ?_)
        · refine g_iinc hB (nI (j + 1)) dX2_isAmongLayers_22 rfl (nI_1 _) (by decide) ?_
          refine g_goto hB 2 dX2_isAmongLayers_25 (by decide) ?_
          refine g_sub _ rfl (ih (j + 1) (by omega) (by omega) (fun q hq => ?_))
          rcases Nat.lt_or_ge q j with y | y
          · exact hbef q y
          · rw [show q = j by omega]; exact decide_eq_false c_17
        · have hz : anyB (fun j => decide (S 7 i j = nI s)) L.length = true := anyB_s (k := j) (decide_eq_true c_17) c_7
          refine g_iconst hB (nI 1) dX2_isAmongLayers_20 rfl ?_
          exact g_iret hB hr rfl (Nat.le_of_ble_eq_true rfl) (Nat.le_of_ble_eq_true rfl) (⟨by rw [hz]; rfl, rfl⟩) dX2_isAmongLayers_21
  refine g_iconst hB (nI 0) dX2_isAmongLayers_0 rfl ?_
  refine g_istore_n hB 2 dX2_isAmongLayers_1 rfl (by decide) ?_
  exact g_sub _ rfl (loop (L.length + 1) 0 (by omega) (by omega) (fun k hk => by omega))
theorem c_X2_drop (S : Mem) (i : Nat) (hi : i < 12) (s : Nat) (hs : s < 22) : CV l yX2_drop cX2_drop 3 none { frames := 2, cells := 0, slots := 0, locals := 43 } D ad CNT ca SR (SH ad ca S) [.ref (ad 6 i), .int (nI s)] (PM ad ca (uS S 8 i (ovl (S 8 i) (s * 6) 6 (fun _ => -1)))) := by
  refine CV.of _ RX2 (by decide +kernel) rfl (Nat.le_of_ble_eq_true rfl) ?_
  intro p9 e9 s9 m9 a9 b9 me9 c9 A9 hB hr hnm9
  have loop : ∀ (n k : Nat), 6 - k < n → k ≤ 6 → G p9 l e9 { frames := 2, cells := 0, slots := 0, locals := 43 } s9 m9 a9 b9 me9 c9 D ad A9 3 (MQ b9 (va_Qv (PM ad ca (uS S 8 i (ovl (S 8 i) (s * 6) 6 (fun _ => -1)))) (fun E' t => WW D ad CNT A9 E' t.heap) A9) a9 s9 0 0 A9) 0 0 CNT (SH ad ca (uS S 8 i (ovl (S 8 i) (s * 6) k (fun _ => -1)))) 2 [(0, .ref (ad 6 i)), (1, .int (nI s)), (2, .int (nI k))] [] := by
    intro n
    induction n with
    | zero => intro k h1; omega
    | succ n ih =>
      intro k h1 h2
      refine g_iload_n hB 2 dX2_drop_2 rfl rfl ?_
      refine g_bipush hB (nI 6) dX2_drop_3 rfl ?_
      refine n_icmp_ge hB k 6 27 dX2_drop_5 (by decide) (by omega) (by omega) (fun c_5 => ?_) (fun c_5 => ?_)
      · have hk : k = 6 := by omega
        subst hk
        exact g_vret hB hr (Nat.le_of_ble_eq_true rfl) (Nat.le_of_ble_eq_true rfl) (rfl) dX2_drop_27
      · refine g_aload_n hB 0 dX2_drop_8 rfl rfl ?_
        refine g_get (ci := 2) (T := TX2) (N := 6) hB in_X2 rfl 6 i 4 (show i < 12 by first | assumption | omega) (by decide) rfl tw_fl_X2_12 rfl dX2_drop_9 ?_
        refine g_iload_n hB 1 dX2_drop_12 rfl rfl ?_
        refine g_iload_n hB 2 dX2_drop_13 rfl rfl ?_
        refine g_callNI hB (host := RX5) (c_X5_cellOf _ _ _) tw_code_X5_cellOf (by decide) tw_ini_X5 tw_st_X5_cellOf yk_X5_cellOf ⟨Nat.le_of_ble_eq_true rfl, Nat.le_of_ble_eq_true rfl⟩ rfl (Nat.le_of_ble_eq_true rfl) ⟨Nat.le_of_ble_eq_true rfl, Nat.le_of_ble_eq_true rfl⟩ dX2_drop_14 ?_
        rintro _ _ ⟨rfl, rfl⟩
        refine g_iconst hB (-1) dX2_drop_17 rfl ?_
        refine g_callVV hB (c_X9_set8 _ i hi (s * 6 + k) (by omega) _) k_X2_53 rfl yk_X9_set ⟨Nat.le_of_ble_eq_true rfl, Nat.le_of_ble_eq_true rfl⟩ ⟨(show i < 12 by first | assumption | omega), _, _, _, rfl, rfl, rfl⟩ rfl (Nat.le_of_ble_eq_true rfl) ⟨Nat.le_of_ble_eq_true rfl, Nat.le_of_ble_eq_true rfl⟩ dX2_drop_18 ?_
        rintro _ rfl
        refine g_iinc hB (nI (k + 1)) dX2_drop_21 rfl (nI_1 _) (by decide) ?_
        refine g_goto hB 2 dX2_drop_24 (by decide) ?_
        refine s_eq _ ?_ (g_sub _ rfl (ih (k + 1) (by omega) (by omega)))
        rw [uM_uS]
        exact congrArg (uS S 8 i) ovl_s
  refine g_iconst hB (nI 0) dX2_drop_0 rfl ?_
  refine g_istore_n hB 2 dX2_drop_1 rfl (by decide) ?_
  refine s_eq _ ?_ (g_sub _ rfl (loop 7 0 (by omega) (by omega)))
  rw [ovl_0, uS_self]
theorem c_X2_dropOtherGroups (S : Mem) (i : Nat) (hi : i < 12) (L : List Nat) (hL : MK S i L) : CV l yX2_dropOtherGroups cX2_dropOtherGroups 2 none { frames := 3, cells := 0, slots := 0, locals := 65 } D ad CNT ca SR (SH ad ca S) [.ref (ad 6 i)] (PM ad ca (uS S 8 i (dpV S i L 10))) := by
  refine CV.of _ RX2 (by decide +kernel) rfl (Nat.le_of_ble_eq_true rfl) ?_
  intro p9 e9 s9 m9 a9 b9 me9 c9 A9 hB hr hnm9
  have loop : ∀ (n s : Nat), 10 - s < n → s ≤ 10 → G p9 l e9 { frames := 3, cells := 0, slots := 0, locals := 65 } s9 m9 a9 b9 me9 c9 D ad A9 2 (MQ b9 (va_Qv (PM ad ca (uS S 8 i (dpV S i L 10))) (fun E' t => WW D ad CNT A9 E' t.heap) A9) a9 s9 0 0 A9) 0 0 CNT (SH ad ca (uS S 8 i (dpV S i L s))) 2 [(0, .ref (ad 6 i)), (1, .int (nI s))] [] := by
    intro n
    induction n with
    | zero => intro k h1; omega
    | succ n ih =>
      intro s h1 h2
      refine g_iload_n hB 1 dX2_dropOtherGroups_2 rfl rfl ?_
      refine g_bipush hB (nI 10) dX2_dropOtherGroups_3 rfl ?_
      refine n_icmp_ge hB s 10 27 dX2_dropOtherGroups_5 (by decide) (by omega) (by omega) (fun c_5 => ?_) (fun c_5 => ?_)
      · have hk : s = 10 := by omega
        subst hk
        exact g_vret hB hr (Nat.le_of_ble_eq_true rfl) (Nat.le_of_ble_eq_true rfl) (rfl) dX2_dropOtherGroups_27
      · have hL2 : MK (uS S 8 i (dpV S i L s)) i L := MK_fr rfl rfl hL
        refine g_aload_n hB 0 dX2_dropOtherGroups_8 rfl rfl ?_
        refine g_iload_n hB 1 dX2_dropOtherGroups_9 rfl rfl ?_
        refine g_callVI hB (c_X2_isAmongLayers _ i hi L hL2 s (by omega)) k_X2_47 rfl yk_X2_isAmongLayers ⟨Nat.le_of_ble_eq_true rfl, Nat.le_of_ble_eq_true rfl⟩ ⟨(show i < 12 by first | assumption | omega), _, _, _, rfl, rfl, rfl⟩ rfl (Nat.le_of_ble_eq_true rfl) ⟨Nat.le_of_ble_eq_true rfl, Nat.le_of_ble_eq_true rfl⟩ dX2_dropOtherGroups_10 ?_
        rintro _ _ ⟨rfl, rfl⟩
        refine b_if_ne hB (decide (s ∈ L)) 21 dX2_dropOtherGroups_13 (by decide) (fun c_13 => ?_) (fun c_13 => ?_)
        · refine g_iinc hB (nI (s + 1)) dX2_dropOtherGroups_21 rfl (nI_1 _) (by decide) ?_
          refine g_goto hB 2 dX2_dropOtherGroups_24 (by decide) ?_
          refine s_eq _ ?_ (g_sub _ rfl (ih (s + 1) (by omega) (by omega)))
          exact congrArg (uS S 8 i) (dpV_in (of_decide_eq_true c_13)).symm
        · refine g_aload_n hB 0 dX2_dropOtherGroups_16 rfl rfl ?_
          refine g_iload_n hB 1 dX2_dropOtherGroups_17 rfl rfl ?_
          refine g_callVV hB (c_X2_drop _ i hi s (by omega)) k_X2_50 rfl yk_X2_drop ⟨Nat.le_of_ble_eq_true rfl, Nat.le_of_ble_eq_true rfl⟩ ⟨(show i < 12 by first | assumption | omega), _, _, _, rfl, rfl, rfl⟩ rfl (Nat.le_of_ble_eq_true rfl) ⟨Nat.le_of_ble_eq_true rfl, Nat.le_of_ble_eq_true rfl⟩ dX2_dropOtherGroups_18 ?_
          rintro _ rfl
          refine g_iinc hB (nI (s + 1)) dX2_dropOtherGroups_21 rfl (nI_1 _) (by decide) ?_
          refine g_goto hB 2 dX2_dropOtherGroups_24 (by decide) ?_
          refine s_eq _ ?_ (g_sub _ rfl (ih (s + 1) (by omega) (by omega)))
          rw [uS_s, uS_uS]
          exact congrArg (uS S 8 i) (dpV_out (of_decide_eq_false c_13))
  refine g_iconst hB (nI 0) dX2_dropOtherGroups_0 rfl ?_
  refine g_istore_n hB 1 dX2_dropOtherGroups_1 rfl (by decide) ?_
  refine s_eq _ ?_ (g_sub _ rfl (loop 11 0 (by omega) (by omega)))
  rw [dpV_0, uS_self]
def egV (own : Nat) (par : Nat → Int32) (g : Nat) : Nat → Int32 := fun j => nI ((own :: pth par g).getD j 0)
def egM (S : Mem) (i own g : Nat) : Mem := uS (EM S i (nI g) (egV own (S 1 1) g) (1 + (pth (S 1 1) g).length)) 8 i (dpV S i (own :: pth (S 1 1) g) 10)
theorem eg_le {r : Nat} (h : r < 2 ^ 31 - 1) : ¬ (nI (r + 1) ≤ (0 : Int32)) := by
  intro c
  rw [i32_le, toInt_nI (by omega)] at c
  have z : (0 : Int32).toInt = 0 := rfl
  omega
theorem c_X2_addLayer (S : Mem) (i : Nat) (hi : i < 12) (n : Nat) (hn : S 6 i 3 = nI n) (hn11 : n < 11) (x : Int32) : CV l yX2_addLayer cX2_addLayer 2 none { frames := 0, cells := 0, slots := 0, locals := 0 } D ad CNT ca SR (SH ad ca S) [.ref (ad 6 i), .int (x)] (PM ad ca (uM (uM S 7 i n x) 6 i 3 (nI (n + 1)))) := by
  refine CV.of _ RX2 (by decide +kernel) rfl (Nat.le_of_ble_eq_true rfl) ?_
  intro p9 e9 s9 m9 a9 b9 me9 c9 A9 hB hr hnm9
  refine g_aload_n hB 0 dX2_addLayer_0 rfl rfl ?_
  refine g_get (ci := 2) (T := TX2) (N := 6) hB in_X2 rfl 6 i 3 (show i < 12 by first | assumption | omega) (by decide) rfl tw_fl_X2_29 rfl dX2_addLayer_1 ?_
  refine g_top (nI n) (hn) ?_
  refine g_aload_n hB 0 dX2_addLayer_4 rfl rfl ?_
  refine g_get (ci := 2) (T := TX2) (N := 6) hB in_X2 rfl 6 i 5 (show i < 12 by first | assumption | omega) (by decide) rfl tw_fl_X2_18 rfl dX2_addLayer_5 ?_
  refine g_alen hB 7 i 0 (ty := .int) (show i < 12 by first | assumption | omega) rfl rfl dX2_addLayer_8 ?_
  refine n_icmp_ge hB n 11 32 dX2_addLayer_9 (by decide) (by omega) (by omega) (fun c_9 => ?_) (fun c_9 => ?_)
  · exact absurd c_9 (by omega)
  · refine g_aload_n hB 0 dX2_addLayer_12 rfl rfl ?_
    refine g_get (ci := 2) (T := TX2) (N := 6) hB in_X2 rfl 6 i 5 (show i < 12 by first | assumption | omega) (by decide) rfl tw_fl_X2_18 rfl dX2_addLayer_13 ?_
    refine g_aload_n hB 0 dX2_addLayer_16 rfl rfl ?_
    refine g_get (ci := 2) (T := TX2) (N := 6) hB in_X2 rfl 6 i 3 (show i < 12 by first | assumption | omega) (by decide) rfl tw_fl_X2_29 rfl dX2_addLayer_17 ?_
    refine g_top (nI n) (hn) ?_
    refine g_iload_n hB 1 dX2_addLayer_20 rfl rfl ?_
    refine s_iast hB 7 i n (n := 11) (show i < 12 by first | assumption | omega) (fun _ => rfl) (by first | assumption | omega) (Nat.le_of_ble_eq_true rfl) dX2_addLayer_21 ?_
    refine g_aload_n hB 0 dX2_addLayer_22 rfl rfl ?_
    refine g_dup hB rfl dX2_addLayer_23 ?_
    refine g_get (ci := 2) (T := TX2) (N := 6) hB in_X2 rfl 6 i 3 (show i < 12 by first | assumption | omega) (by decide) rfl tw_fl_X2_29 rfl dX2_addLayer_24 ?_
    refine g_top (nI n) (hn) ?_
    refine g_iconst hB (nI 1) dX2_addLayer_27 rfl ?_
    refine g_iadd hB dX2_addLayer_28 ?_
    refine g_top (nI (n + 1)) (nI_add _ _) ?_
    refine s_put (ci := 2) (T := TX2) (N := 6) hB in_X2 rfl tyX2 tyX2_ok nmX2 6 i 3 (show i < 12 by first | assumption | omega) (by decide) rfl rfl tw_fl_X2_29 rfl rfl rfl (Nat.le_of_ble_eq_true rfl) dX2_addLayer_29 ?_
    exact g_vret hB hr (Nat.le_of_ble_eq_true rfl) (Nat.le_of_ble_eq_true rfl) (rfl) dX2_addLayer_32
theorem c_X2_enterGroup (S : Mem) (i own g ng : Nat) (hi : i < 12) (ho : S 6 i 0 = nI own) (ho22 : own < 22) (hp : PAR (S 1 1) ng) (hng : ng ≤ 10) (hg : g < ng) : CV l yX2_enterGroup cX2_enterGroup 5 none { frames := 4, cells := 0, slots := 0, locals := 86 } D ad CNT ca SR (SH ad ca S) [.ref (ad 6 i), .int (nI g), .ref (ad 1 1)] (PM ad ca (egM S i own g)) := by
  have hlen := pth_len hp hng (g + 1) g (Nat.lt_succ_self g) hg
  refine CV.of _ RX2 (by decide +kernel) rfl (Nat.le_of_ble_eq_true rfl) ?_
  intro p9 e9 s9 m9 a9 b9 me9 c9 A9 hB hr hnm9
  have hMK : MK (EM S i (nI g) (egV own (S 1 1) g) (1 + (pth (S 1 1) g).length)) i (own :: pth (S 1 1) g) := by
    refine ⟨?_, by rw [List.length_cons]; omega, fun j hj => ⟨?_, ?_⟩⟩
    · rw [List.length_cons, Nat.add_comm]; unfold EM; exact uM_s
    · rw [EM_7]
      have := ovl_in (f := S 7 i) (b := 0) (v := egV own (S 1 1) g) (show j < 1 + (pth (S 1 1) g).length by rw [List.length_cons] at hj; omega)
      rw [Nat.zero_add] at this
      rw [this]; rfl
    · cases j with
      | zero => exact ho22
      | succ j => exact Nat.lt_of_lt_of_le (pth_in hp hng hg (Nat.lt_of_succ_lt_succ hj)) (by omega)
  have fin : G p9 l e9 { frames := 4, cells := 0, slots := 0, locals := 86 } s9 m9 a9 b9 me9 c9 D ad A9 5 (MQ b9 (va_Qv (PM ad ca (egM S i own g)) (fun E' t => WW D ad CNT A9 E' t.heap) A9) a9 s9 0 0 A9) 0 0 CNT (SH ad ca (EM S i (nI g) (egV own (S 1 1) g) (1 + (pth (S 1 1) g).length))) 54 [(0, .ref (ad 6 i))] [] := by
    refine g_aload_n hB 0 dX2_enterGroup_54 rfl rfl ?_
    refine g_callVV hB (c_X2_dropOtherGroups _ i hi _ hMK) k_X2_36 rfl yk_X2_dropOtherGroups ⟨Nat.le_of_ble_eq_true rfl, Nat.le_of_ble_eq_true rfl⟩ ⟨(show i < 12 by first | assumption | omega), _, _, _, rfl, rfl, rfl⟩ rfl (Nat.le_of_ble_eq_true rfl) ⟨Nat.le_of_ble_eq_true rfl, Nat.le_of_ble_eq_true rfl⟩ dX2_enterGroup_55 ?_
    rintro _ rfl
    exact g_vret hB hr (Nat.le_of_ble_eq_true rfl) (Nat.le_of_ble_eq_true rfl) (rfl) dX2_enterGroup_58
  have loop : ∀ (n j x r : Nat), (pth (S 1 1) g).length - j < n → j < (pth (S 1 1) g).length → x = (pth (S 1 1) g).getD j 0 → r + j = 10 → G p9 l e9 { frames := 4, cells := 0, slots := 0, locals := 86 } s9 m9 a9 b9 me9 c9 D ad A9 5 (MQ b9 (va_Qv (PM ad ca (egM S i own g)) (fun E' t => WW D ad CNT A9 E' t.heap) A9) a9 s9 0 0 A9) 0 0 CNT (SH ad ca (EM S i (nI g) (egV own (S 1 1) g) (1 + j))) 24 [(0, .ref (ad 6 i)), (1, .int (nI g)), (2, .ref (ad 1 1)), (3, .int (nI x)), (4, .int (nI r))] [] := by
    intro n
    induction n with
    | zero => intro j x r h1; omega
    | succ n ih =>
      intro j x r h1 h2 hx hr10
      obtain ⟨r, rfl⟩ : ∃ r', r = r' + 1 := ⟨r - 1, by omega⟩
      have hx10 : x < ng := by rw [hx]; exact pth_in hp hng hg h2
      have hv : nI x = egV own (S 1 1) g (1 + j) := by rw [hx, egV, Nat.add_comm 1 j]; rfl
      have e3 : EM S i (nI g) (egV own (S 1 1) g) (1 + j) 6 i 3 = nI (1 + j) := by unfold EM; exact uM_s
      rcases Nat.lt_or_ge (j + 1) (pth (S 1 1) g).length with hlt | hge
      · obtain ⟨y, h', a1, a2, a3, a4, a5, a6⟩ := pth_at hp hng (g + 1) g j (by omega) hg hlt
        have hxy : x = y := by rw [hx, a1]
        subst hxy
        refine g_iload hB 4 dX2_enterGroup_24 rfl ?_
        refine g_if_le hB 54 dX2_enterGroup_26 (by decide) (fun c_26 => ?_) (fun c_26 => ?_)
        · exact absurd c_26 (eg_le (by omega))
        · refine g_iload_n hB 3 dX2_enterGroup_29 rfl rfl ?_
          refine n_if_lt (tgt := 54) hB _ dX2_enterGroup_30 (by decide) (by omega) ?_
          refine g_iload_n hB 3 dX2_enterGroup_33 rfl rfl ?_
          refine g_aload_n hB 2 dX2_enterGroup_34 rfl rfl ?_
          refine g_alen hB 1 1 0 (ty := .int) (by decide) rfl rfl dX2_enterGroup_35 ?_
          refine n_icmp_ge hB x 10 54 dX2_enterGroup_36 (by decide) (by omega) (by omega) (fun c_36 => ?_) (fun c_36 => ?_)
          · exact absurd c_36 (by omega)
          · refine g_aload_n hB 0 dX2_enterGroup_39 rfl rfl ?_
            refine g_iload_n hB 3 dX2_enterGroup_40 rfl rfl ?_
            refine g_callVV hB (c_X2_addLayer _ i hi (1 + j) e3 (by omega) _) k_X2_32 rfl yk_X2_addLayer ⟨Nat.le_of_ble_eq_true rfl, Nat.le_of_ble_eq_true rfl⟩ ⟨(show i < 12 by first | assumption | omega), _, _, _, rfl, rfl, rfl⟩ rfl (Nat.le_of_ble_eq_true rfl) ⟨Nat.le_of_ble_eq_true rfl, Nat.le_of_ble_eq_true rfl⟩ dX2_enterGroup_41 ?_
            rintro _ rfl
            refine g_aload_n hB 2 dX2_enterGroup_44 rfl rfl ?_
            refine g_iload_n hB 3 dX2_enterGroup_45 rfl rfl ?_
            refine g_iald hB 1 1 x (n := 10) (by decide) rfl (by first | assumption | omega) (Nat.le_of_ble_eq_true rfl) dX2_enterGroup_46 ?_
            refine g_top (nI (h')) (a5) ?_
            refine g_istore_n hB 3 dX2_enterGroup_47 rfl (by decide) ?_
            refine g_iinc hB ((nI r)) dX2_enterGroup_48 rfl (lI_pred' r) (by decide) ?_
            refine g_goto hB 24 dX2_enterGroup_51 (by decide) ?_
            refine s_eq _ ?_ (g_sub _ rfl (ih (j + 1) h' r (by omega) hlt a6.symm (by omega)))
            rw [hv]
            exact EM_s
      · have hj : j + 1 = (pth (S 1 1) g).length := by omega
        have hx0 : S 1 1 x = -1 := by
          rcases Nat.eq_zero_or_pos x with z | z
          · rw [z]; exact hp.1
          · obtain ⟨h', b1, b2⟩ := hp.2 x z hx10
            exact absurd hge (by
              have := pth_last hp hng (g + 1) g j (by omega) hg h2 (by rw [← hx]; exact z)
              omega)
        have J24 : G p9 l e9 { frames := 4, cells := 0, slots := 0, locals := 86 } s9 m9 a9 b9 me9 c9 D ad A9 5 (MQ b9 (va_Qv (PM ad ca (egM S i own g)) (fun E' t => WW D ad CNT A9 E' t.heap) A9) a9 s9 0 0 A9) 0 0 CNT (SH ad ca (EM S i (nI g) (egV own (S 1 1) g) (1 + (pth (S 1 1) g).length))) 24 [(0, .ref (ad 6 i)), (1, .int (nI g)), (2, .ref (ad 1 1)), (3, .int (-1)), (4, .int (nI r))] [] := by
          refine g_iload hB 4 dX2_enterGroup_24 rfl ?_
          refine g_if_le hB 54 dX2_enterGroup_26 (by decide) (fun c_26 => ?_) (fun c_26 => ?_)
          · exact g_sub _ rfl fin
          · refine g_iload_n hB 3 dX2_enterGroup_29 rfl rfl ?_
            refine g_if_lt hB 54 dX2_enterGroup_30 (by decide) (fun _ => ?_) (fun z => absurd (by decide) z)
            exact g_sub _ rfl fin
        refine g_iload hB 4 dX2_enterGroup_24 rfl ?_
        refine g_if_le hB 54 dX2_enterGroup_26 (by decide) (fun c_26 => ?_) (fun c_26 => ?_)
        · exact absurd c_26 (eg_le (by omega))
        · refine g_iload_n hB 3 dX2_enterGroup_29 rfl rfl ?_
          refine n_if_lt (tgt := 54) hB _ dX2_enterGroup_30 (by decide) (by omega) ?_
          refine g_iload_n hB 3 dX2_enterGroup_33 rfl rfl ?_
          refine g_aload_n hB 2 dX2_enterGroup_34 rfl rfl ?_
          refine g_alen hB 1 1 0 (ty := .int) (by decide) rfl rfl dX2_enterGroup_35 ?_
          refine n_icmp_ge hB x 10 54 dX2_enterGroup_36 (by decide) (by omega) (by omega) (fun c_36 => ?_) (fun c_36 => ?_)
          · exact absurd c_36 (by omega)
          · refine g_aload_n hB 0 dX2_enterGroup_39 rfl rfl ?_
            refine g_iload_n hB 3 dX2_enterGroup_40 rfl rfl ?_
            refine g_callVV hB (c_X2_addLayer _ i hi (1 + j) e3 (by omega) _) k_X2_32 rfl yk_X2_addLayer ⟨Nat.le_of_ble_eq_true rfl, Nat.le_of_ble_eq_true rfl⟩ ⟨(show i < 12 by first | assumption | omega), _, _, _, rfl, rfl, rfl⟩ rfl (Nat.le_of_ble_eq_true rfl) ⟨Nat.le_of_ble_eq_true rfl, Nat.le_of_ble_eq_true rfl⟩ dX2_enterGroup_41 ?_
            rintro _ rfl
            refine g_aload_n hB 2 dX2_enterGroup_44 rfl rfl ?_
            refine g_iload_n hB 3 dX2_enterGroup_45 rfl rfl ?_
            refine g_iald hB 1 1 x (n := 10) (by decide) rfl (by first | assumption | omega) (Nat.le_of_ble_eq_true rfl) dX2_enterGroup_46 ?_
            refine g_top ((-1)) (hx0) ?_
            refine g_istore_n hB 3 dX2_enterGroup_47 rfl (by decide) ?_
            refine g_iinc hB ((nI r)) dX2_enterGroup_48 rfl (lI_pred' r) (by decide) ?_
            refine g_goto hB 24 dX2_enterGroup_51 (by decide) ?_
            refine s_eq _ ?_ (g_sub _ rfl J24)
            rw [hv, ← hj]
            exact EM_s
  refine g_aload_n hB 0 dX2_enterGroup_0 rfl rfl ?_
  refine g_iload_n hB 1 dX2_enterGroup_1 rfl rfl ?_
  refine s_put (ci := 2) (T := TX2) (N := 6) hB in_X2 rfl tyX2 tyX2_ok nmX2 6 i 1 (show i < 12 by first | assumption | omega) (by decide) rfl rfl tw_fl_X2_26 rfl rfl rfl (Nat.le_of_ble_eq_true rfl) dX2_enterGroup_2 ?_
  refine g_aload_n hB 0 dX2_enterGroup_5 rfl rfl ?_
  refine g_iconst hB (nI 0) dX2_enterGroup_6 rfl ?_
  refine s_put (ci := 2) (T := TX2) (N := 6) hB in_X2 rfl tyX2 tyX2_ok nmX2 6 i 3 (show i < 12 by first | assumption | omega) (by decide) rfl rfl tw_fl_X2_29 rfl rfl rfl (Nat.le_of_ble_eq_true rfl) dX2_enterGroup_7 ?_
  refine g_aload_n hB 0 dX2_enterGroup_10 rfl rfl ?_
  refine g_aload_n hB 0 dX2_enterGroup_11 rfl rfl ?_
  refine g_get (ci := 2) (T := TX2) (N := 6) hB in_X2 rfl 6 i 0 (show i < 12 by first | assumption | omega) (by decide) rfl tw_fl_X2_22 rfl dX2_enterGroup_12 ?_
  refine g_top ((nI own)) ((uM_n (by simp)).trans ((uM_n (by simp)).trans ho)) ?_
  refine g_callVV hB (c_X2_addLayer _ i hi 0 uM_s (by decide) _) k_X2_32 rfl yk_X2_addLayer ⟨Nat.le_of_ble_eq_true rfl, Nat.le_of_ble_eq_true rfl⟩ ⟨(show i < 12 by first | assumption | omega), _, _, _, rfl, rfl, rfl⟩ rfl (Nat.le_of_ble_eq_true rfl) ⟨Nat.le_of_ble_eq_true rfl, Nat.le_of_ble_eq_true rfl⟩ dX2_enterGroup_15 ?_
  rintro _ rfl
  refine g_iload_n hB 1 dX2_enterGroup_18 rfl rfl ?_
  refine g_istore_n hB 3 dX2_enterGroup_19 rfl (by decide) ?_
  refine g_bipush hB (nI 10) dX2_enterGroup_20 rfl ?_
  refine g_istore hB 4 dX2_enterGroup_22 (by decide) ?_
  refine s_eq _ ?_ (g_sub _ rfl (loop ((pth (S 1 1) g).length + 1) 0 g 10 (by omega) hlen.1 hlen.2.2.2.1.symm rfl))
  exact EM_01 rfl
end X2
