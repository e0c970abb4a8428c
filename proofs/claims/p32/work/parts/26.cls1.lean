/-! the class: its small methods -/
section X1
variable {l : Launch} {D : va_G} {ad : Nat → Nat → Nat} {ca : Nat → ClassId} {SR : List (String × Nat × String)}
theorem uE_uE {E : Rl} {k i : Nat} {a b : va_E} : uE (uE E k i a) k i b = uE E k i b := by
  funext k' i'
  unfold uE
  by_cases h : k' = k ∧ i' = i
  · rw [if_pos h, if_pos h]
  · rw [if_neg h, if_neg h, if_neg h]
theorem c_fill (cn : Nat → Nat) (E : Rl) (k i n : Nat) (f : Nat → Int32) (v : Int32) (hi : i < cn k) (hE : E k i = .inl (ca 0, n, .inl f)) (hn : n < 2 ^ 31) : CV l yJ7_fill_53178 cJ7_fill_53178 4 none { frames := 0, cells := 0, slots := 0, locals := 0 } D ad cn ca SR E [.ref (ad k i), .int v] (fun E' => E' = uE E k i (.inl (ca 0, n, .inl (ovl f 0 n (fun _ => v))))) := by
  refine CV.of _ RJ7 (by decide +kernel) rfl (Nat.le_of_ble_eq_true rfl) ?_
  intro p9 e9 s9 m9 a9 b9 me9 c9 A9 hB hr hnm9
  have loop : ∀ (n' j : Nat), n - j < n' → j ≤ n → G p9 l e9 { frames := 0, cells := 0, slots := 0, locals := 0 } s9 m9 a9 b9 me9 c9 D ad A9 4 (MQ b9 (va_Qv (fun E' => E' = uE E k i (.inl (ca 0, n, .inl (ovl f 0 n (fun _ => v))))) (fun E' t => WW D ad cn A9 E' t.heap) A9) a9 s9 0 0 A9) 0 0 cn (uE E k i (.inl (ca 0, n, .inl (ovl f 0 j (fun _ => v))))) 5 [(0, .ref (ad k i)), (1, .int v), (2, .int (nI j)), (3, .int (nI n))] [] := by
    intro n'
    induction n' with
    | zero => intro j h1; omega
    | succ n' ih =>
      intro j h1 h2
      refine g_iload_n hB 2 dJ7_fill_53178_5 rfl rfl ?_
      refine g_iload_n hB 3 dJ7_fill_53178_6 rfl rfl ?_
      refine n_icmp_ge hB j n 20 dJ7_fill_53178_7 (by decide) (by omega) (by omega) (fun c_7 => ?_) (fun c_7 => ?_)
      · have hk : j = n := by omega
        subst hk
        exact g_vret hB hr (Nat.le_of_ble_eq_true rfl) (Nat.le_of_ble_eq_true rfl) rfl dJ7_fill_53178_20
      · refine g_aload_n hB 0 dJ7_fill_53178_10 rfl rfl ?_
        refine g_iload_n hB 2 dJ7_fill_53178_11 rfl rfl ?_
        refine g_iload_n hB 1 dJ7_fill_53178_12 rfl rfl ?_
        refine g_iast hB k i j hi uE_s c_7 hn dJ7_fill_53178_13 ?_
        rw [uE_uE, ovl0_s]
        refine g_iinc hB (nI (j + 1)) dJ7_fill_53178_14 rfl (nI_1 _) (by decide) ?_
        refine g_goto hB 5 dJ7_fill_53178_17 (by decide) ?_
        exact g_sub _ rfl (ih (j + 1) (by omega) (by omega))
  refine g_iconst hB (nI 0) dJ7_fill_53178_0 rfl ?_
  refine g_istore_n hB 2 dJ7_fill_53178_1 rfl (by decide) ?_
  refine g_aload_n hB 0 dJ7_fill_53178_2 rfl rfl ?_
  refine g_alen hB k i 0 (ty := .int) hi hE rfl dJ7_fill_53178_3 ?_
  refine g_istore_n hB 3 dJ7_fill_53178_4 rfl (by decide) ?_
  have h0 := loop (n + 1) 0 (by omega) (by omega)
  rw [ovl_0] at h0
  refine g_E (E' := uE E k i (.inl (ca 0, n, .inl f))) (fun k' i' _ => ?_) (g_sub _ rfl h0)
  unfold uE
  by_cases h : k' = k ∧ i' = i
  · rw [if_pos h, h.1, h.2, hE]
  · rw [if_neg h]
theorem c_J7_fill_53178 (S : Mem) (k i n : Nat) (v : Int32) (hi : i < CNT k) (hE : ∀ f, cellOf ad ca k i f = .inl (ca 0, n, .inl f)) (hn : n < 2 ^ 31) : CV l yJ7_fill_53178 cJ7_fill_53178 4 none { frames := 0, cells := 0, slots := 0, locals := 0 } D ad CNT ca SR (SH ad ca S) [.ref (ad k i), .int v] (PM ad ca (uS S k i (ovl (S k i) 0 n (fun _ => v)))) := by
  have h := c_fill (l := l) (D := D) (ad := ad) (ca := ca) (SR := SR) CNT (SH ad ca S) k i n (S k i) v hi (hE _) hn
  unfold PM
  rw [← hE, SH_put] at h
  exact h
theorem g_ldcw {p : Program} {l : Launch} {e : Env} {R : Room} {s : State} {m : MethodId} {args : Array Value} {below : List Frame} {meth : Method} {c : Code} {D : va_G} {ad : Nat → Nat → Nat} {A : Nat → Prop} {nL : Nat} {Q : State → Prop} {cells slots : Nat} {cn : Nat → Nat} {E : Rl} {lvs : List (Nat × Value)} {st : List Value} {cc : ByteArray} {own : String} {ca : Nat → ClassId} {SR : List (String × Nat × String)} {pc : Nat} (hB : MB p s m args meth c cc own nL D ca SR A) {idx : Nat} (v : Int32) (hct : Cond.constant own idx v ∈ Tw) (hdg : decode cc pc = .ok (.ldc_w idx, 3)) (k : G p l e R s m args below meth c D ad A nL Q cells slots cn E (pc + 3) lvs (.int v :: st)) : G p l e R s m args below meth c D ad A nL Q cells slots cn E pc lvs st :=
  fun H locs ls h1 h2 h3 => lv_ldcw hB.1 hB.2.1 hB.2.2.2.1 (hB.2.2.2.2.1 _ hct) hdg (k H locs ls h1 h2 h3)
theorem c_J6_bitCount_0f7a4 (S : Mem) (x : Int32) : CI l yJ6_bitCount_0f7a4 cJ6_bitCount_0f7a4 1 (some .int) { frames := 0, cells := 0, slots := 0, locals := 0 } D ad CNT ca SR (SH ad ca S) [.int (x)] (PR ad ca (bcF x) S) := by
  refine CI.of _ RJ6 (by decide +kernel) rfl (Nat.le_of_ble_eq_true rfl) ?_
  intro p9 e9 s9 m9 a9 b9 me9 c9 A9 hB hr hnm9
  refine g_iload_n hB 0 dJ6_bitCount_0f7a4_0 rfl rfl ?_
  refine g_iload_n hB 0 dJ6_bitCount_0f7a4_1 rfl rfl ?_
  refine g_iconst hB (nI 1) dJ6_bitCount_0f7a4_2 rfl ?_
  refine g_iushr hB dJ6_bitCount_0f7a4_3 ?_
  refine g_ldcw hB (1431655765) tw_ct_J6_265 dJ6_bitCount_0f7a4_4 ?_
  refine g_iand hB dJ6_bitCount_0f7a4_7 ?_
  refine g_isub hB dJ6_bitCount_0f7a4_8 ?_
  refine g_istore_n hB 0 dJ6_bitCount_0f7a4_9 rfl (by decide) ?_
  refine g_iload_n hB 0 dJ6_bitCount_0f7a4_10 rfl rfl ?_
  refine g_ldcw hB (858993459) tw_ct_J6_266 dJ6_bitCount_0f7a4_11 ?_
  refine g_iand hB dJ6_bitCount_0f7a4_14 ?_
  refine g_iload_n hB 0 dJ6_bitCount_0f7a4_15 rfl rfl ?_
  refine g_iconst hB (nI 2) dJ6_bitCount_0f7a4_16 rfl ?_
  refine g_iushr hB dJ6_bitCount_0f7a4_17 ?_
  refine g_ldcw hB (858993459) tw_ct_J6_266 dJ6_bitCount_0f7a4_18 ?_
  refine g_iand hB dJ6_bitCount_0f7a4_21 ?_
  refine g_iadd hB dJ6_bitCount_0f7a4_22 ?_
  refine g_istore_n hB 0 dJ6_bitCount_0f7a4_23 rfl (by decide) ?_
  refine g_iload_n hB 0 dJ6_bitCount_0f7a4_24 rfl rfl ?_
  refine g_iload_n hB 0 dJ6_bitCount_0f7a4_25 rfl rfl ?_
  refine g_iconst hB (nI 4) dJ6_bitCount_0f7a4_26 rfl ?_
  refine g_iushr hB dJ6_bitCount_0f7a4_27 ?_
  refine g_iadd hB dJ6_bitCount_0f7a4_28 ?_
  refine g_ldcw hB (252645135) tw_ct_J6_267 dJ6_bitCount_0f7a4_29 ?_
  refine g_iand hB dJ6_bitCount_0f7a4_32 ?_
  refine g_istore_n hB 0 dJ6_bitCount_0f7a4_33 rfl (by decide) ?_
  refine g_iload_n hB 0 dJ6_bitCount_0f7a4_34 rfl rfl ?_
  refine g_iload_n hB 0 dJ6_bitCount_0f7a4_35 rfl rfl ?_
  refine g_bipush hB (nI 8) dJ6_bitCount_0f7a4_36 rfl ?_
  refine g_iushr hB dJ6_bitCount_0f7a4_38 ?_
  refine g_iadd hB dJ6_bitCount_0f7a4_39 ?_
  refine g_istore_n hB 0 dJ6_bitCount_0f7a4_40 rfl (by decide) ?_
  refine g_iload_n hB 0 dJ6_bitCount_0f7a4_41 rfl rfl ?_
  refine g_iload_n hB 0 dJ6_bitCount_0f7a4_42 rfl rfl ?_
  refine g_bipush hB (nI 16) dJ6_bitCount_0f7a4_43 rfl ?_
  refine g_iushr hB dJ6_bitCount_0f7a4_45 ?_
  refine g_iadd hB dJ6_bitCount_0f7a4_46 ?_
  refine g_istore_n hB 0 dJ6_bitCount_0f7a4_47 rfl (by decide) ?_
  refine g_iload_n hB 0 dJ6_bitCount_0f7a4_48 rfl rfl ?_
  refine g_bipush hB (nI 63) dJ6_bitCount_0f7a4_49 rfl ?_
  refine g_iand hB dJ6_bitCount_0f7a4_51 ?_
  exact g_iret hB hr rfl (Nat.le_of_ble_eq_true rfl) (Nat.le_of_ble_eq_true rfl) (⟨rfl, rfl⟩) dJ6_bitCount_0f7a4_52
theorem c_X4_hasVoided (S : Mem) (i : Nat) (x : Int32) (hi : i < 8) : CI l yX4_hasVoided cX4_hasVoided 2 (some .boolean) { frames := 0, cells := 0, slots := 0, locals := 0 } D ad CNT ca SR (SH ad ca S) [.ref (ad 5 i), .int (x)] (PR ad ca (bI (hvB S i x)) S) := by
  refine CI.of _ RX4 (by decide +kernel) rfl (Nat.le_of_ble_eq_true rfl) ?_
  intro p9 e9 s9 m9 a9 b9 me9 c9 A9 hB hr hnm9
  refine g_aload_n hB 0 dX4_hasVoided_0 rfl rfl ?_
  refine g_get (ci := 4) (T := TX4) (N := 4) hB in_X4 rfl 5 i 1 (show i < 8 by first | assumption | omega) (by decide) rfl tw_fl_X4_15 rfl dX4_hasVoided_1 ?_
  refine g_if_eq hB 22 dX4_hasVoided_4 (by decide) (fun c_4 => ?_) (fun c_4 => ?_)
  · have e4 : hvB S i x = false := by unfold hvB; rw [decide_eq_false (fun z => z c_4)]; rfl
    refine g_iconst hB (nI 0) dX4_hasVoided_22 rfl ?_
    exact g_iret hB hr rfl (Nat.le_of_ble_eq_true rfl) (Nat.le_of_ble_eq_true rfl) (⟨by rw [e4]; rfl, rfl⟩) dX4_hasVoided_23
  · refine g_aload_n hB 0 dX4_hasVoided_7 rfl rfl ?_
    refine g_get (ci := 4) (T := TX4) (N := 4) hB in_X4 rfl 5 i 2 (show i < 8 by first | assumption | omega) (by decide) rfl tw_fl_X4_18 rfl dX4_hasVoided_8 ?_
    refine g_iload_n hB 1 dX4_hasVoided_11 rfl rfl ?_
    refine g_isub hB dX4_hasVoided_12 ?_
    refine g_bipush hB (nI 30) dX4_hasVoided_13 rfl ?_
    refine g_icmp_ge hB 22 dX4_hasVoided_15 (by decide) (fun c_15 => ?_) (fun c_15 => ?_)
    · have e4 : hvB S i x = false := by unfold hvB; rw [decide_eq_true c_4, decide_eq_false (Int32.not_lt.mpr c_15)]; rfl
      refine g_iconst hB (nI 0) dX4_hasVoided_22 rfl ?_
      exact g_iret hB hr rfl (Nat.le_of_ble_eq_true rfl) (Nat.le_of_ble_eq_true rfl) (⟨by rw [e4]; rfl, rfl⟩) dX4_hasVoided_23
    · have e4 : hvB S i x = true := by unfold hvB; rw [decide_eq_true c_4, decide_eq_true (Int32.not_le.mp c_15)]; rfl
      refine g_iconst hB (nI 1) dX4_hasVoided_18 rfl ?_
      refine g_goto hB 23 dX4_hasVoided_19 (by decide) ?_
      exact g_iret hB hr rfl (Nat.le_of_ble_eq_true rfl) (Nat.le_of_ble_eq_true rfl) (⟨by rw [e4]; rfl, rfl⟩) dX4_hasVoided_23

theorem c_X5_isChange (S : Mem) (x : Int32) (nc : Nat) (hc : S 0 0 9 = nI nc) (hnc : nc ≤ 40) : CI l yX5_isChange cX5_isChange 2 (some .boolean) { frames := 0, cells := 0, slots := 0, locals := 0 } D ad CNT ca SR (SH ad ca S) [.ref (ad 0 0), .int (x)] (PR ad ca (bI (rgB x nc)) S) := by
  refine CI.of _ RX5 (by decide +kernel) rfl (Nat.le_of_ble_eq_true rfl) ?_
  intro p9 e9 s9 m9 a9 b9 me9 c9 A9 hB hr hnm9
  refine g_iload_n hB 1 dX5_isChange_0 rfl rfl ?_
  refine g_if_lt hB 16 dX5_isChange_1 (by decide) (fun c_1 => ?_) (fun c_1 => ?_)
  · refine g_iconst hB (nI 0) dX5_isChange_16 rfl ?_
    exact g_iret hB hr rfl (Nat.le_of_ble_eq_true rfl) (Nat.le_of_ble_eq_true rfl) (⟨by first | (rw [rg1 c_1]; rfl) | (rw [rg2 (by omega) c_9]; rfl) | (rw [rg3 (by omega) c_1 c_9]; rfl), rfl⟩) dX5_isChange_17
  · refine g_iload_n hB 1 dX5_isChange_4 rfl rfl ?_
    refine g_aload_n hB 0 dX5_isChange_5 rfl rfl ?_
    refine g_get (ci := 5) (T := TX5) (N := 16) hB in_X5 rfl 0 0 9 (by decide) (by decide) rfl tw_fl_X5_163 rfl dX5_isChange_6 ?_
    refine g_top (nI nc) (hc) ?_
    refine g_icmp_ge hB 16 dX5_isChange_9 (by decide) (fun c_9 => ?_) (fun c_9 => ?_)
    · refine g_iconst hB (nI 0) dX5_isChange_16 rfl ?_
      exact g_iret hB hr rfl (Nat.le_of_ble_eq_true rfl) (Nat.le_of_ble_eq_true rfl) (⟨by first | (rw [rg1 c_1]; rfl) | (rw [rg2 (by omega) c_9]; rfl) | (rw [rg3 (by omega) c_1 c_9]; rfl), rfl⟩) dX5_isChange_17
    · refine g_iconst hB (nI 1) dX5_isChange_12 rfl ?_
      refine g_goto hB 17 dX5_isChange_13 (by decide) ?_
      exact g_iret hB hr rfl (Nat.le_of_ble_eq_true rfl) (Nat.le_of_ble_eq_true rfl) (⟨by first | (rw [rg1 c_1]; rfl) | (rw [rg2 (by omega) c_9]; rfl) | (rw [rg3 (by omega) c_1 c_9]; rfl), rfl⟩) dX5_isChange_17
theorem c_X5_slotOf (S : Mem) (x : Int32) (ng nm : Nat) (hg : S 0 0 5 = nI ng) (hng : ng ≤ 10) (hm : S 0 0 7 = nI nm) (hnm : nm ≤ 12) : CI l yX5_slotOf cX5_slotOf 2 (some .int) { frames := 0, cells := 0, slots := 0, locals := 0 } D ad CNT ca SR (SH ad ca S) [.ref (ad 0 0), .int (x)] (PR ad ca (slF x ng nm) S) := by
  refine CI.of _ RX5 (by decide +kernel) rfl (Nat.le_of_ble_eq_true rfl) ?_
  intro p9 e9 s9 m9 a9 b9 me9 c9 A9 hB hr hnm9
  refine g_iload_n hB 1 dX5_slotOf_0 rfl rfl ?_
  refine g_if_lt hB 14 dX5_slotOf_1 (by decide) (fun c_1 => ?_) (fun c_1 => ?_)
  · have e1 : rgB x ng = false := rg1 c_1
    refine g_iload_n hB 1 dX5_slotOf_14 rfl rfl ?_
    refine g_bipush hB (nI 100) dX5_slotOf_15 rfl ?_
    refine g_icmp_lt hB 39 dX5_slotOf_17 (by decide) (fun c_17 => ?_) (fun c_17 => ?_)
    · have e2 : decide (100 ≤ x.toInt ∧ x.toInt < 100 + nm) = false := by rw [i32_lt, toInt_nI (by omega)] at c_17; exact decide_eq_false (by omega)
      refine g_iconst hB (-1) dX5_slotOf_39 rfl ?_
      exact g_iret hB hr rfl (Nat.le_of_ble_eq_true rfl) (Nat.le_of_ble_eq_true rfl) (⟨by first | (rw [slF, e1]; rfl) | (rw [slF, e1, e2]; rfl), rfl⟩) dX5_slotOf_40
    · refine g_iload_n hB 1 dX5_slotOf_20 rfl rfl ?_
      refine g_bipush hB (nI 100) dX5_slotOf_21 rfl ?_
      refine g_aload_n hB 0 dX5_slotOf_23 rfl rfl ?_
      refine g_get (ci := 5) (T := TX5) (N := 16) hB in_X5 rfl 0 0 7 (by decide) (by decide) rfl tw_fl_X5_127 rfl dX5_slotOf_24 ?_
      refine g_top (nI nm) (hm) ?_
      refine g_iadd hB dX5_slotOf_27 ?_
      refine g_top (nI (100 + nm)) (nI_add _ _) ?_
      refine g_icmp_ge hB 39 dX5_slotOf_28 (by decide) (fun c_28 => ?_) (fun c_28 => ?_)
      · have e2 : decide (100 ≤ x.toInt ∧ x.toInt < 100 + nm) = false := by rw [i32_le, toInt_nI (by omega)] at c_28; exact decide_eq_false (by omega)
        refine g_iconst hB (-1) dX5_slotOf_39 rfl ?_
        exact g_iret hB hr rfl (Nat.le_of_ble_eq_true rfl) (Nat.le_of_ble_eq_true rfl) (⟨by first | (rw [slF, e1]; rfl) | (rw [slF, e1, e2]; rfl), rfl⟩) dX5_slotOf_40
      · have e2 : decide (100 ≤ x.toInt ∧ x.toInt < 100 + nm) = true := by rw [i32_le, toInt_nI (by omega)] at c_28; rw [i32_lt, toInt_nI (by omega)] at c_17; exact decide_eq_true (by omega)
        refine g_bipush hB (nI 10) dX5_slotOf_31 rfl ?_
        refine g_iload_n hB 1 dX5_slotOf_33 rfl rfl ?_
        refine g_iadd hB dX5_slotOf_34 ?_
        refine g_bipush hB (nI 100) dX5_slotOf_35 rfl ?_
        refine g_isub hB dX5_slotOf_37 ?_
        exact g_iret hB hr rfl (Nat.le_of_ble_eq_true rfl) (Nat.le_of_ble_eq_true rfl) (⟨by first | (rw [slF, e1]; rfl) | (rw [slF, e1, e2]; rfl), rfl⟩) dX5_slotOf_38
  · refine g_iload_n hB 1 dX5_slotOf_4 rfl rfl ?_
    refine g_aload_n hB 0 dX5_slotOf_5 rfl rfl ?_
    refine g_get (ci := 5) (T := TX5) (N := 16) hB in_X5 rfl 0 0 5 (by decide) (by decide) rfl tw_fl_X5_26 rfl dX5_slotOf_6 ?_
    refine g_top (nI ng) (hg) ?_
    refine g_icmp_ge hB 14 dX5_slotOf_9 (by decide) (fun c_9 => ?_) (fun c_9 => ?_)
    · have e1 : rgB x ng = false := rg2 (by omega) c_9
      refine g_iload_n hB 1 dX5_slotOf_14 rfl rfl ?_
      refine g_bipush hB (nI 100) dX5_slotOf_15 rfl ?_
      refine g_icmp_lt hB 39 dX5_slotOf_17 (by decide) (fun c_17 => ?_) (fun c_17 => ?_)
      · have e2 : decide (100 ≤ x.toInt ∧ x.toInt < 100 + nm) = false := by rw [i32_lt, toInt_nI (by omega)] at c_17; exact decide_eq_false (by omega)
        refine g_iconst hB (-1) dX5_slotOf_39 rfl ?_
        exact g_iret hB hr rfl (Nat.le_of_ble_eq_true rfl) (Nat.le_of_ble_eq_true rfl) (⟨by first | (rw [slF, e1]; rfl) | (rw [slF, e1, e2]; rfl), rfl⟩) dX5_slotOf_40
      · refine g_iload_n hB 1 dX5_slotOf_20 rfl rfl ?_
        refine g_bipush hB (nI 100) dX5_slotOf_21 rfl ?_
        refine g_aload_n hB 0 dX5_slotOf_23 rfl rfl ?_
        refine g_get (ci := 5) (T := TX5) (N := 16) hB in_X5 rfl 0 0 7 (by decide) (by decide) rfl tw_fl_X5_127 rfl dX5_slotOf_24 ?_
        refine g_top (nI nm) (hm) ?_
        refine g_iadd hB dX5_slotOf_27 ?_
        refine g_top (nI (100 + nm)) (nI_add _ _) ?_
        refine g_icmp_ge hB 39 dX5_slotOf_28 (by decide) (fun c_28 => ?_) (fun c_28 => ?_)
        · have e2 : decide (100 ≤ x.toInt ∧ x.toInt < 100 + nm) = false := by rw [i32_le, toInt_nI (by omega)] at c_28; exact decide_eq_false (by omega)
          refine g_iconst hB (-1) dX5_slotOf_39 rfl ?_
          exact g_iret hB hr rfl (Nat.le_of_ble_eq_true rfl) (Nat.le_of_ble_eq_true rfl) (⟨by first | (rw [slF, e1]; rfl) | (rw [slF, e1, e2]; rfl), rfl⟩) dX5_slotOf_40
        · have e2 : decide (100 ≤ x.toInt ∧ x.toInt < 100 + nm) = true := by rw [i32_le, toInt_nI (by omega)] at c_28; rw [i32_lt, toInt_nI (by omega)] at c_17; exact decide_eq_true (by omega)
          refine g_bipush hB (nI 10) dX5_slotOf_31 rfl ?_
          refine g_iload_n hB 1 dX5_slotOf_33 rfl rfl ?_
          refine g_iadd hB dX5_slotOf_34 ?_
          refine g_bipush hB (nI 100) dX5_slotOf_35 rfl ?_
          refine g_isub hB dX5_slotOf_37 ?_
          exact g_iret hB hr rfl (Nat.le_of_ble_eq_true rfl) (Nat.le_of_ble_eq_true rfl) (⟨by first | (rw [slF, e1]; rfl) | (rw [slF, e1, e2]; rfl), rfl⟩) dX5_slotOf_38
    · have e1 : rgB x ng = true := rg3 (by omega) c_1 c_9
      refine g_iload_n hB 1 dX5_slotOf_12 rfl rfl ?_
      exact g_iret hB hr rfl (Nat.le_of_ble_eq_true rfl) (Nat.le_of_ble_eq_true rfl) (⟨by first | (rw [slF, e1]; rfl) | (rw [slF, e1, e2]; rfl), rfl⟩) dX5_slotOf_13
theorem c_X5_cellOf (S : Mem) (s k : Nat) : CI l yX5_cellOf cX5_cellOf 2 (some .int) { frames := 0, cells := 0, slots := 0, locals := 0 } D ad CNT ca SR (SH ad ca S) [.int (nI s), .int (nI k)] (PR ad ca (nI (s * 6 + k)) S) := by
  refine CI.of _ RX5 (by decide +kernel) rfl (Nat.le_of_ble_eq_true rfl) ?_
  intro p9 e9 s9 m9 a9 b9 me9 c9 A9 hB hr hnm9
  refine g_iload_n hB 0 dX5_cellOf_0 rfl rfl ?_
  refine g_bipush hB (nI 6) dX5_cellOf_1 rfl ?_
  refine g_imul hB dX5_cellOf_3 ?_
  refine g_top (nI (s * 6)) (pk_mul _ _) ?_
  refine g_iload_n hB 1 dX5_cellOf_4 rfl rfl ?_
  refine g_iadd hB dX5_cellOf_5 ?_
  refine g_top (nI (s * 6 + k)) (nI_add _ _) ?_
  exact g_iret hB hr rfl (Nat.le_of_ble_eq_true rfl) (Nat.le_of_ble_eq_true rfl) (⟨rfl, rfl⟩) dX5_cellOf_6
theorem c_X5_contains (S : Mem) (x y : Int32) : CI l yX5_contains cX5_contains 2 (some .boolean) { frames := 0, cells := 0, slots := 0, locals := 0 } D ad CNT ca SR (SH ad ca S) [.int (x), .int (y)] (PR ad ca (bI (cntI x y)) S) := by
  refine CI.of _ RX5 (by decide +kernel) rfl (Nat.le_of_ble_eq_true rfl) ?_
  intro p9 e9 s9 m9 a9 b9 me9 c9 A9 hB hr hnm9
  refine g_iload_n hB 0 dX5_contains_0 rfl rfl ?_
  refine g_iload_n hB 1 dX5_contains_1 rfl rfl ?_
  refine g_ishr hB dX5_contains_2 ?_
  refine g_iconst hB (nI 1) dX5_contains_3 rfl ?_
  refine g_iand hB dX5_contains_4 ?_
  refine g_if_eq hB 12 dX5_contains_5 (by decide) (fun c_5 => ?_) (fun c_5 => ?_)
  · refine g_iconst hB (nI 0) dX5_contains_12 rfl ?_
    exact g_iret hB hr rfl (Nat.le_of_ble_eq_true rfl) (Nat.le_of_ble_eq_true rfl) (⟨by first | (unfold cntI; rw [decide_eq_false (fun z => z c_5)]; rfl) | (unfold cntI; rw [decide_eq_true c_5]; rfl), rfl⟩) dX5_contains_13
  · refine g_iconst hB (nI 1) dX5_contains_8 rfl ?_
    refine g_goto hB 13 dX5_contains_9 (by decide) ?_
    exact g_iret hB hr rfl (Nat.le_of_ble_eq_true rfl) (Nat.le_of_ble_eq_true rfl) (⟨by first | (unfold cntI; rw [decide_eq_false (fun z => z c_5)]; rfl) | (unfold cntI; rw [decide_eq_true c_5]; rfl), rfl⟩) dX5_contains_13
theorem c_X5_with (S : Mem) (x y : Int32) (b : Bool) : CI l yX5_with cX5_with 3 (some .int) { frames := 0, cells := 0, slots := 0, locals := 0 } D ad CNT ca SR (SH ad ca S) [.int (x), .int (y), .int (bI (b))] (PR ad ca (wthI x y b) S) := by
  refine CI.of _ RX5 (by decide +kernel) rfl (Nat.le_of_ble_eq_true rfl) ?_
  intro p9 e9 s9 m9 a9 b9 me9 c9 A9 hB hr hnm9
  refine g_iload_n hB 2 dX5_with_0 rfl rfl ?_
  refine b_if_eq hB (b) 12 dX5_with_1 (by decide) (fun c_1 => ?_) (fun c_1 => ?_)
  · refine g_iload_n hB 0 dX5_with_12 rfl rfl ?_
    refine g_iconst hB (nI 1) dX5_with_13 rfl ?_
    refine g_iload_n hB 1 dX5_with_14 rfl rfl ?_
    refine g_ishl hB dX5_with_15 ?_
    refine g_iconst hB (-1) dX5_with_16 rfl ?_
    refine g_ixor hB dX5_with_17 ?_
    refine g_iand hB dX5_with_18 ?_
    exact g_iret hB hr rfl (Nat.le_of_ble_eq_true rfl) (Nat.le_of_ble_eq_true rfl) (⟨by rw [wthI, c_1]; rfl, rfl⟩) dX5_with_19
  · refine g_iload_n hB 0 dX5_with_4 rfl rfl ?_
    refine g_iconst hB (nI 1) dX5_with_5 rfl ?_
    refine g_iload_n hB 1 dX5_with_6 rfl rfl ?_
    refine g_ishl hB dX5_with_7 ?_
    refine g_ior hB dX5_with_8 ?_
    refine g_goto hB 19 dX5_with_9 (by decide) ?_
    exact g_iret hB hr rfl (Nat.le_of_ble_eq_true rfl) (Nat.le_of_ble_eq_true rfl) (⟨by rw [wthI, c_1]; rfl, rfl⟩) dX5_with_19
theorem c_X5_isOnDuty (S : Mem) (p t : Nat) (ht : S 0 0 0 = nI t) (htb : t < 2 ^ 20) : CI l yX5_isOnDuty cX5_isOnDuty 3 (some .boolean) { frames := 1, cells := 0, slots := 0, locals := 21 } D ad CNT ca SR (SH ad ca S) [.ref (ad 0 0), .int (nI p)] (PR ad ca (bI (cntI (S 1 0 (t / 7 % 4)) (nI p))) S) := by
  refine CI.of _ RX5 (by decide +kernel) rfl (Nat.le_of_ble_eq_true rfl) ?_
  intro p9 e9 s9 m9 a9 b9 me9 c9 A9 hB hr hnm9
  refine g_aload_n hB 0 dX5_isOnDuty_0 rfl rfl ?_
  refine g_get (ci := 5) (T := TX5) (N := 16) hB in_X5 rfl 0 0 0 (by decide) (by decide) rfl tw_fl_X5_97 rfl dX5_isOnDuty_1 ?_
  refine g_top (nI t) (ht) ?_
  refine g_bipush hB (nI 7) dX5_isOnDuty_4 rfl ?_
  refine g_idiv hB (by decide) dX5_isOnDuty_6 ?_
  refine g_top (nI (t / 7)) (pk_div (by omega) (by omega) (by omega)) ?_
  refine g_iconst hB (nI 4) dX5_isOnDuty_7 rfl ?_
  refine g_irem hB (by decide) dX5_isOnDuty_8 ?_
  refine g_top (nI (t / 7 % 4)) (pk_rem (by omega) (by omega) (by omega)) ?_
  refine g_istore_n hB 2 dX5_isOnDuty_9 rfl (by decide) ?_
  refine g_iload_n hB 2 dX5_isOnDuty_10 rfl rfl ?_
  refine n_if_lt (tgt := 31) hB _ dX5_isOnDuty_11 (by decide) (by omega) ?_
  refine g_aload_n hB 0 dX5_isOnDuty_14 rfl rfl ?_
  refine g_get (ci := 5) (T := TX5) (N := 16) hB in_X5 rfl 0 0 2 (by decide) (by decide) rfl tw_fl_X5_13 rfl dX5_isOnDuty_15 ?_
  refine g_iload_n hB 2 dX5_isOnDuty_18 rfl rfl ?_
  refine g_iald hB 1 0 (t / 7 % 4) (n := 4) (by decide) rfl (by first | assumption | omega) (Nat.le_of_ble_eq_true rfl) dX5_isOnDuty_19 ?_
  refine g_iload_n hB 1 dX5_isOnDuty_20 rfl rfl ?_
  refine g_callSI hB (c_X5_contains _ _ _) k_X5_208 yk_X5_contains ⟨Nat.le_of_ble_eq_true rfl, Nat.le_of_ble_eq_true rfl⟩ rfl (Nat.le_of_ble_eq_true rfl) ⟨Nat.le_of_ble_eq_true rfl, Nat.le_of_ble_eq_true rfl⟩ dX5_isOnDuty_21 ?_
  rintro _ _ ⟨rfl, rfl⟩
  refine b_if_eq hB (cntI (S 1 0 (t / 7 % 4)) (nI p)) 31 dX5_isOnDuty_24 (by decide) (fun c_24 => ?_) (fun c_24 => ?_)
  · refine g_iconst hB (nI 0) dX5_isOnDuty_31 rfl ?_
    exact g_iret hB hr rfl (Nat.le_of_ble_eq_true rfl) (Nat.le_of_ble_eq_true rfl) (⟨by rw [c_24]; rfl, rfl⟩) dX5_isOnDuty_32
  · refine g_iconst hB (nI 1) dX5_isOnDuty_27 rfl ?_
    refine g_goto hB 32 dX5_isOnDuty_28 (by decide) ?_
    exact g_iret hB hr rfl (Nat.le_of_ble_eq_true rfl) (Nat.le_of_ble_eq_true rfl) (⟨by rw [c_24]; rfl, rfl⟩) dX5_isOnDuty_32
theorem c_X5_isTakenNotHeld (S : Mem) (x : Int32) (nc : Nat) (hc : S 0 0 9 = nI nc) (hnc : nc ≤ 40) : CI l yX5_isTakenNotHeld cX5_isTakenNotHeld 2 (some .boolean) { frames := 1, cells := 0, slots := 0, locals := 21 } D ad CNT ca SR (SH ad ca S) [.ref (ad 0 0), .int (x)] (PR ad ca (bI (cNh S nc x)) S) := by
  refine CI.of _ RX5 (by decide +kernel) rfl (Nat.le_of_ble_eq_true rfl) ?_
  intro p9 e9 s9 m9 a9 b9 me9 c9 A9 hB hr hnm9
  refine g_aload_n hB 0 dX5_isTakenNotHeld_0 rfl rfl ?_
  refine g_iload_n hB 1 dX5_isTakenNotHeld_1 rfl rfl ?_
  refine g_callVI hB (c_X5_isChange _ _ nc hc hnc) k_X5_285 rfl yk_X5_isChange ⟨Nat.le_of_ble_eq_true rfl, Nat.le_of_ble_eq_true rfl⟩ ⟨(by decide), _, _, _, rfl, rfl, rfl⟩ rfl (Nat.le_of_ble_eq_true rfl) ⟨Nat.le_of_ble_eq_true rfl, Nat.le_of_ble_eq_true rfl⟩ dX5_isTakenNotHeld_2 ?_
  rintro _ _ ⟨rfl, rfl⟩
  refine b_if_eq hB (rgB x nc) 25 dX5_isTakenNotHeld_5 (by decide) (fun c_5 => ?_) (fun c_5 => ?_)
  · refine g_iconst hB (nI 0) dX5_isTakenNotHeld_25 rfl ?_
    exact g_iret hB hr rfl (Nat.le_of_ble_eq_true rfl) (Nat.le_of_ble_eq_true rfl) (⟨by first | (unfold cNh; rw [c_5]; rfl) | (unfold cNh; rw [c_5, ij, decide_eq_true c_18]; rfl) | (unfold cNh; rw [c_5, ij, decide_eq_false (fun z => z c_18)]; rfl), rfl⟩) dX5_isTakenNotHeld_26
  · obtain ⟨j, hj, rfl⟩ := rgB_t c_5
    have ij := ix_nI (show j < 2 ^ 31 by omega)
    refine g_aload_n hB 0 dX5_isTakenNotHeld_8 rfl rfl ?_
    refine g_get (ci := 5) (T := TX5) (N := 16) hB in_X5 rfl 0 0 8 (by decide) (by decide) rfl tw_fl_X5_37 rfl dX5_isTakenNotHeld_9 ?_
    refine g_iload_n hB 1 dX5_isTakenNotHeld_12 rfl rfl ?_
    refine g_aald hB 4 0 j 3 (n := 40) (by decide) rfl rfl (by first | assumption | omega) (Nat.le_of_ble_eq_true rfl) rfl dX5_isTakenNotHeld_13 ?_
    refine g_get (ci := 0) (T := TX0) (N := 8) hB in_X0 rfl 9 j 4 (show j < 40 by first | assumption | omega) (by decide) rfl tw_fl_X5_195 rfl dX5_isTakenNotHeld_14 ?_
    refine g_iconst hB (nI 1) dX5_isTakenNotHeld_17 rfl ?_
    refine g_icmp_eq hB 25 dX5_isTakenNotHeld_18 (by decide) (fun c_18 => ?_) (fun c_18 => ?_)
    · refine g_iconst hB (nI 0) dX5_isTakenNotHeld_25 rfl ?_
      exact g_iret hB hr rfl (Nat.le_of_ble_eq_true rfl) (Nat.le_of_ble_eq_true rfl) (⟨by first | (unfold cNh; rw [c_5]; rfl) | (unfold cNh; rw [c_5, ij, decide_eq_true c_18]; rfl) | (unfold cNh; rw [c_5, ij, decide_eq_false (fun z => z c_18)]; rfl), rfl⟩) dX5_isTakenNotHeld_26
    · refine g_iconst hB (nI 1) dX5_isTakenNotHeld_21 rfl ?_
      refine g_goto hB 26 dX5_isTakenNotHeld_22 (by decide) ?_
      exact g_iret hB hr rfl (Nat.le_of_ble_eq_true rfl) (Nat.le_of_ble_eq_true rfl) (⟨by first | (unfold cNh; rw [c_5]; rfl) | (unfold cNh; rw [c_5, ij, decide_eq_true c_18]; rfl) | (unfold cNh; rw [c_5, ij, decide_eq_false (fun z => z c_18)]; rfl), rfl⟩) dX5_isTakenNotHeld_26
theorem c_X5_whatIsToldBy (S : Mem) (x : Int32) (nc : Nat) (hc : S 0 0 9 = nI nc) (hnc : nc ≤ 40) : CI l yX5_whatIsToldBy cX5_whatIsToldBy 2 (some .int) { frames := 1, cells := 0, slots := 0, locals := 21 } D ad CNT ca SR (SH ad ca S) [.ref (ad 0 0), .int (x)] (PR ad ca (cWh S nc x) S) := by
  refine CI.of _ RX5 (by decide +kernel) rfl (Nat.le_of_ble_eq_true rfl) ?_
  intro p9 e9 s9 m9 a9 b9 me9 c9 A9 hB hr hnm9
  refine g_aload_n hB 0 dX5_whatIsToldBy_0 rfl rfl ?_
  refine g_iload_n hB 1 dX5_whatIsToldBy_1 rfl rfl ?_
  refine g_callVI hB (c_X5_isChange _ _ nc hc hnc) k_X5_285 rfl yk_X5_isChange ⟨Nat.le_of_ble_eq_true rfl, Nat.le_of_ble_eq_true rfl⟩ ⟨(by decide), _, _, _, rfl, rfl, rfl⟩ rfl (Nat.le_of_ble_eq_true rfl) ⟨Nat.le_of_ble_eq_true rfl, Nat.le_of_ble_eq_true rfl⟩ dX5_whatIsToldBy_2 ?_
  rintro _ _ ⟨rfl, rfl⟩
  refine b_if_eq hB (rgB x nc) 20 dX5_whatIsToldBy_5 (by decide) (fun c_5 => ?_) (fun c_5 => ?_)
  · refine g_iconst hB (-1) dX5_whatIsToldBy_20 rfl ?_
    exact g_iret hB hr rfl (Nat.le_of_ble_eq_true rfl) (Nat.le_of_ble_eq_true rfl) (⟨by first | (unfold cWh; rw [c_5]; rfl) | (unfold cWh; rw [c_5, ij]; rfl), rfl⟩) dX5_whatIsToldBy_21
  · obtain ⟨j, hj, rfl⟩ := rgB_t c_5
    have ij := ix_nI (show j < 2 ^ 31 by omega)
    refine g_aload_n hB 0 dX5_whatIsToldBy_8 rfl rfl ?_
    refine g_get (ci := 5) (T := TX5) (N := 16) hB in_X5 rfl 0 0 8 (by decide) (by decide) rfl tw_fl_X5_37 rfl dX5_whatIsToldBy_9 ?_
    refine g_iload_n hB 1 dX5_whatIsToldBy_12 rfl rfl ?_
    refine g_aald hB 4 0 j 3 (n := 40) (by decide) rfl rfl (by first | assumption | omega) (Nat.le_of_ble_eq_true rfl) rfl dX5_whatIsToldBy_13 ?_
    refine g_get (ci := 0) (T := TX0) (N := 8) hB in_X0 rfl 9 j 2 (show j < 40 by first | assumption | omega) (by decide) rfl tw_fl_X5_347 rfl dX5_whatIsToldBy_14 ?_
    refine g_goto hB 21 dX5_whatIsToldBy_17 (by decide) ?_
    exact g_iret hB hr rfl (Nat.le_of_ble_eq_true rfl) (Nat.le_of_ble_eq_true rfl) (⟨by first | (unfold cWh; rw [c_5]; rfl) | (unfold cWh; rw [c_5, ij]; rfl), rfl⟩) dX5_whatIsToldBy_21

theorem c_X9_isCell8 (S : Mem) (i : Nat) (hi : i < 12) (x : Int32) : CI l yX9_isCell cX9_isCell 2 (some .boolean) { frames := 0, cells := 0, slots := 0, locals := 0 } D ad CNT ca SR (SH ad ca S) [.ref (ad 20 i), .int (x)] (PR ad ca (bI (rgB x 132)) S) := by
  refine CI.of _ RX9 (by decide +kernel) rfl (Nat.le_of_ble_eq_true rfl) ?_
  intro p9 e9 s9 m9 a9 b9 me9 c9 A9 hB hr hnm9
  refine g_iload_n hB 1 dX9_isCell_0 rfl rfl ?_
  refine g_if_lt hB 17 dX9_isCell_1 (by decide) (fun c_1 => ?_) (fun c_1 => ?_)
  · refine g_iconst hB (nI 0) dX9_isCell_17 rfl ?_
    exact g_iret hB hr rfl (Nat.le_of_ble_eq_true rfl) (Nat.le_of_ble_eq_true rfl) (⟨by first | (rw [rg1 c_1]; rfl) | (rw [rg2 (by omega) c_10]; rfl) | (rw [rg3 (by omega) c_1 c_10]; rfl), rfl⟩) dX9_isCell_18
  · refine g_iload_n hB 1 dX9_isCell_4 rfl rfl ?_
    refine g_aload_n hB 0 dX9_isCell_5 rfl rfl ?_
    refine g_get (ci := 6) (T := TX9) (N := 1) hB in_X9 rfl 20 i 0 (show i < 12 by first | assumption | omega) (by decide) rfl tw_fl_X9_9 rfl dX9_isCell_6 ?_
    refine g_alen hB 8 i 0 (ty := .int) (show i < 12 by first | assumption | omega) rfl rfl dX9_isCell_9 ?_
    refine g_icmp_ge hB 17 dX9_isCell_10 (by decide) (fun c_10 => ?_) (fun c_10 => ?_)
    · refine g_iconst hB (nI 0) dX9_isCell_17 rfl ?_
      exact g_iret hB hr rfl (Nat.le_of_ble_eq_true rfl) (Nat.le_of_ble_eq_true rfl) (⟨by first | (rw [rg1 c_1]; rfl) | (rw [rg2 (by omega) c_10]; rfl) | (rw [rg3 (by omega) c_1 c_10]; rfl), rfl⟩) dX9_isCell_18
    · refine g_iconst hB (nI 1) dX9_isCell_13 rfl ?_
      refine g_goto hB 18 dX9_isCell_14 (by decide) ?_
      exact g_iret hB hr rfl (Nat.le_of_ble_eq_true rfl) (Nat.le_of_ble_eq_true rfl) (⟨by first | (rw [rg1 c_1]; rfl) | (rw [rg2 (by omega) c_10]; rfl) | (rw [rg3 (by omega) c_1 c_10]; rfl), rfl⟩) dX9_isCell_18
theorem c_X9_get8 (S : Mem) (i : Nat) (hi : i < 12) (q : Nat) (hq : q < 132) : CI l yX9_get cX9_get 2 (some .int) { frames := 1, cells := 0, slots := 0, locals := 21 } D ad CNT ca SR (SH ad ca S) [.ref (ad 20 i), .int (nI q)] (PR ad ca (S 8 i q) S) := by
  refine CI.of _ RX9 (by decide +kernel) rfl (Nat.le_of_ble_eq_true rfl) ?_
  intro p9 e9 s9 m9 a9 b9 me9 c9 A9 hB hr hnm9
  refine g_aload_n hB 0 dX9_get_0 rfl rfl ?_
  refine g_iload_n hB 1 dX9_get_1 rfl rfl ?_
  refine g_callVI hB (c_X9_isCell8 _ i hi _) k_X9_21 rfl yk_X9_isCell ⟨Nat.le_of_ble_eq_true rfl, Nat.le_of_ble_eq_true rfl⟩ ⟨(show i < 12 by first | assumption | omega), _, _, _, rfl, rfl, rfl⟩ rfl (Nat.le_of_ble_eq_true rfl) ⟨Nat.le_of_ble_eq_true rfl, Nat.le_of_ble_eq_true rfl⟩ dX9_get_2 ?_
  rintro _ _ ⟨rfl, rfl⟩
  refine b_if_eq hB (rgB (nI q) 132) 17 dX9_get_5 (by decide) (fun c_5 => ?_) (fun c_5 => ?_)
  · rw [rgB_nI (by omega), decide_eq_true hq] at c_5
    cases c_5
  · refine g_aload_n hB 0 dX9_get_8 rfl rfl ?_
    refine g_get (ci := 6) (T := TX9) (N := 1) hB in_X9 rfl 20 i 0 (show i < 12 by first | assumption | omega) (by decide) rfl tw_fl_X9_9 rfl dX9_get_9 ?_
    refine g_iload_n hB 1 dX9_get_12 rfl rfl ?_
    refine g_iald hB 8 i q (n := 132) (show i < 12 by first | assumption | omega) rfl (by first | assumption | omega) (Nat.le_of_ble_eq_true rfl) dX9_get_13 ?_
    refine g_goto hB 18 dX9_get_14 (by decide) ?_
    exact g_iret hB hr rfl (Nat.le_of_ble_eq_true rfl) (Nat.le_of_ble_eq_true rfl) (⟨rfl, rfl⟩) dX9_get_18
theorem c_X9_set8 (S : Mem) (i : Nat) (hi : i < 12) (q : Nat) (hq : q < 132) (v : Int32) : CV l yX9_set cX9_set 3 none { frames := 1, cells := 0, slots := 0, locals := 21 } D ad CNT ca SR (SH ad ca S) [.ref (ad 20 i), .int (nI q), .int (v)] (PM ad ca (uM S 8 i q v)) := by
  refine CV.of _ RX9 (by decide +kernel) rfl (Nat.le_of_ble_eq_true rfl) ?_
  intro p9 e9 s9 m9 a9 b9 me9 c9 A9 hB hr hnm9
  refine g_aload_n hB 0 dX9_set_0 rfl rfl ?_
  refine g_iload_n hB 1 dX9_set_1 rfl rfl ?_
  refine g_callVI hB (c_X9_isCell8 _ i hi _) k_X9_21 rfl yk_X9_isCell ⟨Nat.le_of_ble_eq_true rfl, Nat.le_of_ble_eq_true rfl⟩ ⟨(show i < 12 by first | assumption | omega), _, _, _, rfl, rfl, rfl⟩ rfl (Nat.le_of_ble_eq_true rfl) ⟨Nat.le_of_ble_eq_true rfl, Nat.le_of_ble_eq_true rfl⟩ dX9_set_2 ?_
  rintro _ _ ⟨rfl, rfl⟩
  refine b_if_eq hB (rgB (nI q) 132) 15 dX9_set_5 (by decide) (fun c_5 => ?_) (fun c_5 => ?_)
  · rw [rgB_nI (by omega), decide_eq_true hq] at c_5
    cases c_5
  · refine g_aload_n hB 0 dX9_set_8 rfl rfl ?_
    refine g_get (ci := 6) (T := TX9) (N := 1) hB in_X9 rfl 20 i 0 (show i < 12 by first | assumption | omega) (by decide) rfl tw_fl_X9_9 rfl dX9_set_9 ?_
    refine g_iload_n hB 1 dX9_set_12 rfl rfl ?_
    refine g_iload_n hB 2 dX9_set_13 rfl rfl ?_
    refine s_iast hB 8 i q (n := 132) (show i < 12 by first | assumption | omega) (fun _ => rfl) (by first | assumption | omega) (Nat.le_of_ble_eq_true rfl) dX9_set_14 ?_
    exact g_vret hB hr (Nat.le_of_ble_eq_true rfl) (Nat.le_of_ble_eq_true rfl) (rfl) dX9_set_15
theorem c_X9_isCell13 (S : Mem) (h : Nat) (hh : h < 2) (x : Int32) : CI l yX9_isCell cX9_isCell 2 (some .boolean) { frames := 0, cells := 0, slots := 0, locals := 0 } D ad CNT ca SR (SH ad ca S) [.ref (ad 21 h), .int (x)] (PR ad ca (bI (rgB x 132)) S) := by
  refine CI.of _ RX9 (by decide +kernel) rfl (Nat.le_of_ble_eq_true rfl) ?_
  intro p9 e9 s9 m9 a9 b9 me9 c9 A9 hB hr hnm9
  refine g_iload_n hB 1 dX9_isCell_0 rfl rfl ?_
  refine g_if_lt hB 17 dX9_isCell_1 (by decide) (fun c_1 => ?_) (fun c_1 => ?_)
  · refine g_iconst hB (nI 0) dX9_isCell_17 rfl ?_
    exact g_iret hB hr rfl (Nat.le_of_ble_eq_true rfl) (Nat.le_of_ble_eq_true rfl) (⟨by first | (rw [rg1 c_1]; rfl) | (rw [rg2 (by omega) c_10]; rfl) | (rw [rg3 (by omega) c_1 c_10]; rfl), rfl⟩) dX9_isCell_18
  · refine g_iload_n hB 1 dX9_isCell_4 rfl rfl ?_
    refine g_aload_n hB 0 dX9_isCell_5 rfl rfl ?_
    refine g_get (ci := 6) (T := TX9) (N := 1) hB in_X9 rfl 21 h 0 (show h < 2 by first | assumption | omega) (by decide) rfl tw_fl_X9_9 rfl dX9_isCell_6 ?_
    refine g_alen hB 13 h 0 (ty := .int) (show h < 2 by first | assumption | omega) rfl rfl dX9_isCell_9 ?_
    refine g_icmp_ge hB 17 dX9_isCell_10 (by decide) (fun c_10 => ?_) (fun c_10 => ?_)
    · refine g_iconst hB (nI 0) dX9_isCell_17 rfl ?_
      exact g_iret hB hr rfl (Nat.le_of_ble_eq_true rfl) (Nat.le_of_ble_eq_true rfl) (⟨by first | (rw [rg1 c_1]; rfl) | (rw [rg2 (by omega) c_10]; rfl) | (rw [rg3 (by omega) c_1 c_10]; rfl), rfl⟩) dX9_isCell_18
    · refine g_iconst hB (nI 1) dX9_isCell_13 rfl ?_
      refine g_goto hB 18 dX9_isCell_14 (by decide) ?_
      exact g_iret hB hr rfl (Nat.le_of_ble_eq_true rfl) (Nat.le_of_ble_eq_true rfl) (⟨by first | (rw [rg1 c_1]; rfl) | (rw [rg2 (by omega) c_10]; rfl) | (rw [rg3 (by omega) c_1 c_10]; rfl), rfl⟩) dX9_isCell_18
theorem c_X9_get13 (S : Mem) (h : Nat) (hh : h < 2) (q : Nat) (hq : q < 132) : CI l yX9_get cX9_get 2 (some .int) { frames := 1, cells := 0, slots := 0, locals := 21 } D ad CNT ca SR (SH ad ca S) [.ref (ad 21 h), .int (nI q)] (PR ad ca (S 13 h q) S) := by
  refine CI.of _ RX9 (by decide +kernel) rfl (Nat.le_of_ble_eq_true rfl) ?_
  intro p9 e9 s9 m9 a9 b9 me9 c9 A9 hB hr hnm9
  refine g_aload_n hB 0 dX9_get_0 rfl rfl ?_
  refine g_iload_n hB 1 dX9_get_1 rfl rfl ?_
  refine g_callVI hB (c_X9_isCell13 _ h hh _) k_X9_21 rfl yk_X9_isCell ⟨Nat.le_of_ble_eq_true rfl, Nat.le_of_ble_eq_true rfl⟩ ⟨(show h < 2 by first | assumption | omega), _, _, _, rfl, rfl, rfl⟩ rfl (Nat.le_of_ble_eq_true rfl) ⟨Nat.le_of_ble_eq_true rfl, Nat.le_of_ble_eq_true rfl⟩ dX9_get_2 ?_
  rintro _ _ ⟨rfl, rfl⟩
  refine b_if_eq hB (rgB (nI q) 132) 17 dX9_get_5 (by decide) (fun c_5 => ?_) (fun c_5 => ?_)
  · rw [rgB_nI (by omega), decide_eq_true hq] at c_5
    cases c_5
  · refine g_aload_n hB 0 dX9_get_8 rfl rfl ?_
    refine g_get (ci := 6) (T := TX9) (N := 1) hB in_X9 rfl 21 h 0 (show h < 2 by first | assumption | omega) (by decide) rfl tw_fl_X9_9 rfl dX9_get_9 ?_
    refine g_iload_n hB 1 dX9_get_12 rfl rfl ?_
    refine g_iald hB 13 h q (n := 132) (show h < 2 by first | assumption | omega) rfl (by first | assumption | omega) (Nat.le_of_ble_eq_true rfl) dX9_get_13 ?_
    refine g_goto hB 18 dX9_get_14 (by decide) ?_
    exact g_iret hB hr rfl (Nat.le_of_ble_eq_true rfl) (Nat.le_of_ble_eq_true rfl) (⟨rfl, rfl⟩) dX9_get_18
theorem c_X9_set13 (S : Mem) (h : Nat) (hh : h < 2) (q : Nat) (hq : q < 132) (v : Int32) : CV l yX9_set cX9_set 3 none { frames := 1, cells := 0, slots := 0, locals := 21 } D ad CNT ca SR (SH ad ca S) [.ref (ad 21 h), .int (nI q), .int (v)] (PM ad ca (uM S 13 h q v)) := by
  refine CV.of _ RX9 (by decide +kernel) rfl (Nat.le_of_ble_eq_true rfl) ?_
  intro p9 e9 s9 m9 a9 b9 me9 c9 A9 hB hr hnm9
  refine g_aload_n hB 0 dX9_set_0 rfl rfl ?_
  refine g_iload_n hB 1 dX9_set_1 rfl rfl ?_
  refine g_callVI hB (c_X9_isCell13 _ h hh _) k_X9_21 rfl yk_X9_isCell ⟨Nat.le_of_ble_eq_true rfl, Nat.le_of_ble_eq_true rfl⟩ ⟨(show h < 2 by first | assumption | omega), _, _, _, rfl, rfl, rfl⟩ rfl (Nat.le_of_ble_eq_true rfl) ⟨Nat.le_of_ble_eq_true rfl, Nat.le_of_ble_eq_true rfl⟩ dX9_set_2 ?_
  rintro _ _ ⟨rfl, rfl⟩
  refine b_if_eq hB (rgB (nI q) 132) 15 dX9_set_5 (by decide) (fun c_5 => ?_) (fun c_5 => ?_)
  · rw [rgB_nI (by omega), decide_eq_true hq] at c_5
    cases c_5
  · refine g_aload_n hB 0 dX9_set_8 rfl rfl ?_
    refine g_get (ci := 6) (T := TX9) (N := 1) hB in_X9 rfl 21 h 0 (show h < 2 by first | assumption | omega) (by decide) rfl tw_fl_X9_9 rfl dX9_set_9 ?_
    refine g_iload_n hB 1 dX9_set_12 rfl rfl ?_
    refine g_iload_n hB 2 dX9_set_13 rfl rfl ?_
    refine s_iast hB 13 h q (n := 132) (show h < 2 by first | assumption | omega) (fun _ => rfl) (by first | assumption | omega) (Nat.le_of_ble_eq_true rfl) dX9_set_14 ?_
    exact g_vret hB hr (Nat.le_of_ble_eq_true rfl) (Nat.le_of_ble_eq_true rfl) (rfl) dX9_set_15
theorem c_X1_isRanked (S : Mem) (h : Nat) (hh : h < 2) (x : Int32) : CI l yX1_isRanked cX1_isRanked 2 (some .boolean) { frames := 0, cells := 0, slots := 0, locals := 0 } D ad CNT ca SR (SH ad ca S) [.ref (ad 12 h), .int (x)] (PR ad ca (bI (rgB x 40)) S) := by
  refine CI.of _ RX1 (by decide +kernel) rfl (Nat.le_of_ble_eq_true rfl) ?_
  intro p9 e9 s9 m9 a9 b9 me9 c9 A9 hB hr hnm9
  refine g_iload_n hB 1 dX1_isRanked_0 rfl rfl ?_
  refine g_if_lt hB 17 dX1_isRanked_1 (by decide) (fun c_1 => ?_) (fun c_1 => ?_)
  · refine g_iconst hB (nI 0) dX1_isRanked_17 rfl ?_
    exact g_iret hB hr rfl (Nat.le_of_ble_eq_true rfl) (Nat.le_of_ble_eq_true rfl) (⟨by first | (rw [rg1 c_1]; rfl) | (rw [rg2 (by omega) c_10]; rfl) | (rw [rg3 (by omega) c_1 c_10]; rfl), rfl⟩) dX1_isRanked_18
  · refine g_iload_n hB 1 dX1_isRanked_4 rfl rfl ?_
    refine g_aload_n hB 0 dX1_isRanked_5 rfl rfl ?_
    refine g_get (ci := 1) (T := TX1) (N := 2) hB in_X1 rfl 12 h 1 (show h < 2 by first | assumption | omega) (by decide) rfl tw_fl_X1_18 rfl dX1_isRanked_6 ?_
    refine g_alen hB 14 h 0 (ty := .int) (show h < 2 by first | assumption | omega) rfl rfl dX1_isRanked_9 ?_
    refine g_icmp_ge hB 17 dX1_isRanked_10 (by decide) (fun c_10 => ?_) (fun c_10 => ?_)
    · refine g_iconst hB (nI 0) dX1_isRanked_17 rfl ?_
      exact g_iret hB hr rfl (Nat.le_of_ble_eq_true rfl) (Nat.le_of_ble_eq_true rfl) (⟨by first | (rw [rg1 c_1]; rfl) | (rw [rg2 (by omega) c_10]; rfl) | (rw [rg3 (by omega) c_1 c_10]; rfl), rfl⟩) dX1_isRanked_18
    · refine g_iconst hB (nI 1) dX1_isRanked_13 rfl ?_
      refine g_goto hB 18 dX1_isRanked_14 (by decide) ?_
      exact g_iret hB hr rfl (Nat.le_of_ble_eq_true rfl) (Nat.le_of_ble_eq_true rfl) (⟨by first | (rw [rg1 c_1]; rfl) | (rw [rg2 (by omega) c_10]; rfl) | (rw [rg3 (by omega) c_1 c_10]; rfl), rfl⟩) dX1_isRanked_18
theorem c_X1_rankOf (S : Mem) (h : Nat) (hh : h < 2) (x : Int32) : CI l yX1_rankOf cX1_rankOf 2 (some .int) { frames := 1, cells := 0, slots := 0, locals := 21 } D ad CNT ca SR (SH ad ca S) [.ref (ad 12 h), .int (x)] (PR ad ca (rkV S h x) S) := by
  refine CI.of _ RX1 (by decide +kernel) rfl (Nat.le_of_ble_eq_true rfl) ?_
  intro p9 e9 s9 m9 a9 b9 me9 c9 A9 hB hr hnm9
  refine g_aload_n hB 0 dX1_rankOf_0 rfl rfl ?_
  refine g_iload_n hB 1 dX1_rankOf_1 rfl rfl ?_
  refine g_callVI hB (c_X1_isRanked _ h hh _) k_X1_28 rfl yk_X1_isRanked ⟨Nat.le_of_ble_eq_true rfl, Nat.le_of_ble_eq_true rfl⟩ ⟨(show h < 2 by first | assumption | omega), _, _, _, rfl, rfl, rfl⟩ rfl (Nat.le_of_ble_eq_true rfl) ⟨Nat.le_of_ble_eq_true rfl, Nat.le_of_ble_eq_true rfl⟩ dX1_rankOf_2 ?_
  rintro _ _ ⟨rfl, rfl⟩
  refine b_if_eq hB (rgB x 40) 17 dX1_rankOf_5 (by decide) (fun c_5 => ?_) (fun c_5 => ?_)
  · refine g_iconst hB (-1) dX1_rankOf_17 rfl ?_
    exact g_iret hB hr rfl (Nat.le_of_ble_eq_true rfl) (Nat.le_of_ble_eq_true rfl) (⟨by first | (unfold rkV rkI; rw [c_5]; rfl) | (unfold rkV rkI; rw [c_5, ij]; rfl), rfl⟩) dX1_rankOf_18
  · obtain ⟨j, hj, rfl⟩ := rgB_t c_5
    have ij := ix_nI (show j < 2 ^ 31 by omega)
    refine g_aload_n hB 0 dX1_rankOf_8 rfl rfl ?_
    refine g_get (ci := 1) (T := TX1) (N := 2) hB in_X1 rfl 12 h 1 (show h < 2 by first | assumption | omega) (by decide) rfl tw_fl_X1_18 rfl dX1_rankOf_9 ?_
    refine g_iload_n hB 1 dX1_rankOf_12 rfl rfl ?_
    refine g_iald hB 14 h j (n := 40) (show h < 2 by first | assumption | omega) rfl (by first | assumption | omega) (Nat.le_of_ble_eq_true rfl) dX1_rankOf_13 ?_
    refine g_goto hB 18 dX1_rankOf_14 (by decide) ?_
    exact g_iret hB hr rfl (Nat.le_of_ble_eq_true rfl) (Nat.le_of_ble_eq_true rfl) (⟨by first | (unfold rkV rkI; rw [c_5]; rfl) | (unfold rkV rkI; rw [c_5, ij]; rfl), rfl⟩) dX1_rankOf_18
theorem c_X1_setRank (S : Mem) (h : Nat) (hh : h < 2) (c : Nat) (hc : c < 40) (v : Int32) : CV l yX1_setRank cX1_setRank 3 none { frames := 1, cells := 0, slots := 0, locals := 21 } D ad CNT ca SR (SH ad ca S) [.ref (ad 12 h), .int (nI c), .int (v)] (PM ad ca (uM S 14 h c v)) := by
  refine CV.of _ RX1 (by decide +kernel) rfl (Nat.le_of_ble_eq_true rfl) ?_
  intro p9 e9 s9 m9 a9 b9 me9 c9 A9 hB hr hnm9
  refine g_aload_n hB 0 dX1_setRank_0 rfl rfl ?_
  refine g_iload_n hB 1 dX1_setRank_1 rfl rfl ?_
  refine g_callVI hB (c_X1_isRanked _ h hh _) k_X1_28 rfl yk_X1_isRanked ⟨Nat.le_of_ble_eq_true rfl, Nat.le_of_ble_eq_true rfl⟩ ⟨(show h < 2 by first | assumption | omega), _, _, _, rfl, rfl, rfl⟩ rfl (Nat.le_of_ble_eq_true rfl) ⟨Nat.le_of_ble_eq_true rfl, Nat.le_of_ble_eq_true rfl⟩ dX1_setRank_2 ?_
  rintro _ _ ⟨rfl, rfl⟩
  refine b_if_eq hB (rgB (nI c) 40) 15 dX1_setRank_5 (by decide) (fun c_5 => ?_) (fun c_5 => ?_)
  · rw [rgB_nI (by omega), decide_eq_true hc] at c_5
    cases c_5
  · refine g_aload_n hB 0 dX1_setRank_8 rfl rfl ?_
    refine g_get (ci := 1) (T := TX1) (N := 2) hB in_X1 rfl 12 h 1 (show h < 2 by first | assumption | omega) (by decide) rfl tw_fl_X1_18 rfl dX1_setRank_9 ?_
    refine g_iload_n hB 1 dX1_setRank_12 rfl rfl ?_
    refine g_iload_n hB 2 dX1_setRank_13 rfl rfl ?_
    refine s_iast hB 14 h c (n := 40) (show h < 2 by first | assumption | omega) (fun _ => rfl) (by first | assumption | omega) (Nat.le_of_ble_eq_true rfl) dX1_setRank_14 ?_
    exact g_vret hB hr (Nat.le_of_ble_eq_true rfl) (Nat.le_of_ble_eq_true rfl) (rfl) dX1_setRank_15
end X1
