/-! the law: what it looks up -/
section L1
variable {l : Launch} {D : va_G} {ad : Nat → Nat → Nat} {ca : Nat → ClassId} {SR : List (String × Nat × String)}

theorem low_ok {j n : Nat} (hn : 0 < n) (hj : j < 2 ^ 31) (hn2 : n < 2 ^ 31) : ∃ i, i < n ∧ nI j - nI j / nI n * nI n = nI i := ⟨j % n, Nat.mod_lt _ hn, pk_rem hj hn hn2⟩
theorem nI_no0 {n : Nat} (h : 0 < n) (h2 : n < 2 ^ 31) : ¬ nI n = 0 := nI_ne0 h h2
def LOWP (ad : Nat → Nat → Nat) (ca : Nat → ClassId) (S : Mem) (n : Nat) : Int32 → Rl → Prop := fun r E' => ∃ j, j < n ∧ r = nI j ∧ E' = SH ad ca S
theorem c_L_low (S : Mem) (v : Int32) (n : Nat) (hn : 0 < n) (hn2 : n < 2 ^ 31) : CI l yL_low cL_low 2 (some .int) { frames := 0, cells := 0, slots := 0, locals := 0 } D ad CNT ca SR (SH ad ca S) [.int (v), .int (nI n)] (LOWP ad ca S n) := by
  obtain ⟨j0, hj0, ej0⟩ := pk_andE v (m := 2147483647) 31 (by decide +kernel)
  obtain ⟨i0, hi0, ei0⟩ := low_ok hn hj0 hn2
  refine CI.of _ RL (by decide +kernel) rfl (Nat.le_of_ble_eq_true rfl) ?_
  intro p9 e9 s9 m9 a9 b9 me9 c9 A9 hB hr hnm9
  refine g_iload_n hB 0 dL_low_0 rfl rfl ?_
  refine g_ldc hB (2147483647) tw_ct_L_9 dL_low_1 ?_
  refine g_iand hB dL_low_3 ?_
  refine g_top (nI (j0)) (ej0) ?_
  refine g_iload_n hB 1 dL_low_4 rfl rfl ?_
  refine g_irem hB (nI_no0 hn hn2) dL_low_5 ?_
  refine g_top (nI (i0)) (ei0) ?_
  exact g_iret hB hr rfl (Nat.le_of_ble_eq_true rfl) (Nat.le_of_ble_eq_true rfl) (⟨i0, hi0, rfl, rfl⟩) dL_low_6
theorem c_L_slot (S : Mem) (ng nm nc t pa rk : Nat) (hL : LR S ng nm nc t pa rk) (hR : RI S ng nm nc t pa) (m : Nat) (hm : m < nm) (j : Nat) (hj : j ≤ (lay (S 18 2) (grp S m)).length) : CI l yL_slot cL_slot 5 (some .int) { frames := 0, cells := 0, slots := 0, locals := 0 } D ad CNT ca SR (SH ad ca S) [.int (nI m), .int (nI j), .ref (ad 22 1)] (PR ad ca (slV S m j) S) := by
  have hL0 := hL
  obtain ⟨⟨⟨q0, q1, q2, q3, q4, q5⟩, hng1, hng4, hnm3, hnc12, ht20, hrk20, hpa12⟩, hD, hG, hN, hT, hZ, hC, hCz, hA, hGa, hE⟩ := hL
  obtain ⟨hg, egm⟩ := RI_grp hR hm
  have hp := hR.2.2.2.2.2.1
  have hng := hR.1.2.2
  have hlen := pth_len hp hng _ _ (Nat.lt_succ_self _) hg
  have hll : (lay (S 18 2) (grp S m)).length = (pth (S 18 2) (grp S m)).length + 1 := rfl
  have e4 : S 22 1 (4 + m) = nI (grp S m) := (hN.2.1 m hm).trans egm
  refine CI.of _ RL (by decide +kernel) rfl (Nat.le_of_ble_eq_true rfl) ?_
  intro p9 e9 s9 m9 a9 b9 me9 c9 A9 hB hr hnm9
  rcases Nat.eq_zero_or_pos j with rfl | h0
  · have hs0 : slV S m 0 = nI 4 := slV_in (by omega)
    refine g_iload_n hB 1 dL_slot_0 rfl rfl ?_
    refine g_if_ne hB 8 dL_slot_1 (by decide) (fun z => absurd rfl z) (fun _ => ?_)
    refine g_iconst hB (nI 4) dL_slot_4 rfl ?_
    refine g_goto hB 13 dL_slot_5 (by decide) ?_
    refine g_istore_n hB 3 dL_slot_13 rfl (by decide) ?_
    refine g_iconst hB (nI 1) dL_slot_14 rfl ?_
    refine g_istore hB 4 dL_slot_15 (by decide) ?_
    refine g_iload hB 4 dL_slot_17 rfl ?_
    refine g_iload_n hB 1 dL_slot_19 rfl rfl ?_
    refine n_icmp_ge hB 1 0 37 dL_slot_20 (by decide) (by decide) (by decide) (fun _ => ?_) (fun z => absurd z (by decide))
    refine g_iload_n hB 3 dL_slot_37 rfl rfl ?_
    exact g_iret hB hr rfl (Nat.le_of_ble_eq_true rfl) (Nat.le_of_ble_eq_true rfl) (⟨hs0.symm, rfl⟩) dL_slot_38
  · have back : ∀ k, k = j → j = (lay (S 18 2) (grp S m)).length → G p9 l e9 { frames := 0, cells := 0, slots := 0, locals := 0 } s9 m9 a9 b9 me9 c9 D ad A9 5 (MQ b9 (va_Qi (PR ad ca (slV S m j) S) (fun E' t => WW D ad CNT A9 E' t.heap) A9) a9 s9 0 0 A9) 0 0 CNT (SH ad ca (S)) 17 [(0, .int (nI m)), (1, .int (nI j)), (2, .ref (ad 22 1)), (3, .int (-1)), (4, .int (nI k))] [] := by
      intro k hk hjl
      have hs0 : slV S m j = -1 := by rw [hjl]; exact slV_out
      refine g_iload hB 4 dL_slot_17 rfl ?_
      refine g_iload_n hB 1 dL_slot_19 rfl rfl ?_
      refine n_icmp_ge hB k j 37 dL_slot_20 (by decide) (by omega) (by omega) (fun c_20 => ?_) (fun c_20 => ?_)
      · refine g_iload_n hB 3 dL_slot_37 rfl rfl ?_
        exact g_iret hB hr rfl (Nat.le_of_ble_eq_true rfl) (Nat.le_of_ble_eq_true rfl) (⟨hs0.symm, rfl⟩) dL_slot_38
      · exact absurd c_20 (by omega)
    have loop : ∀ (n k x : Nat), j - k < n → 1 ≤ k → k ≤ j → k - 1 < (pth (S 18 2) (grp S m)).length → x = (pth (S 18 2) (grp S m)).getD (k - 1) 0 → G p9 l e9 { frames := 0, cells := 0, slots := 0, locals := 0 } s9 m9 a9 b9 me9 c9 D ad A9 5 (MQ b9 (va_Qi (PR ad ca (slV S m j) S) (fun E' t => WW D ad CNT A9 E' t.heap) A9) a9 s9 0 0 A9) 0 0 CNT (SH ad ca (S)) 17 [(0, .int (nI m)), (1, .int (nI j)), (2, .ref (ad 22 1)), (3, .int (nI x)), (4, .int (nI k))] [] := by
      intro n
      induction n with
      | zero => intro k x h1; omega
      | succ n ih =>
        intro k x h1 h2 h3 h4 hx
        have hxg : x < ng := by rw [hx]; exact pth_in hp hng hg h4
        obtain ⟨k', rfl⟩ : ∃ k', k = k' + 1 := ⟨k - 1, by omega⟩
        rw [Nat.add_sub_cancel] at h4 hx
        have hret : k' + 1 = j → nI x = slV S m j := by
          intro hkj
          rw [← hkj, slV_in (by omega)]
          show nI x = nI (s4 ((pth (S 18 2) (grp S m)).getD k' 0))
          rw [← hx]
          unfold s4
          rw [if_neg (by omega)]
        rcases Nat.lt_or_ge (k' + 1) (pth (S 18 2) (grp S m)).length with hlt | hge
        · obtain ⟨y, h', a1, a2, a3, a4, a5, a6⟩ := pth_at hp hng (grp S m + 1) (grp S m) k' (by omega) hg hlt
          have hxy : x = y := by rw [hx, a1]
          subst hxy
          have e5 : S 22 1 x = nI h' := (hN.1 x hxg).trans a5
          refine g_iload hB 4 dL_slot_17 rfl ?_
          refine g_iload_n hB 1 dL_slot_19 rfl rfl ?_
          refine n_icmp_ge hB (k' + 1) j 37 dL_slot_20 (by decide) (by omega) (by omega) (fun c_20 => ?_) (fun c_20 => ?_)
          · have hr0 := hret (by omega)
            refine g_iload_n hB 3 dL_slot_37 rfl rfl ?_
            exact g_iret hB hr rfl (Nat.le_of_ble_eq_true rfl) (Nat.le_of_ble_eq_true rfl) (⟨hr0, rfl⟩) dL_slot_38
          · refine g_iload_n hB 3 dL_slot_23 rfl rfl ?_
            refine n_if_lt (tgt := 37) hB _ dL_slot_24 (by decide) (by omega) ?_
            refine g_aload_n hB 2 dL_slot_27 rfl rfl ?_
            refine g_iload_n hB 3 dL_slot_28 rfl rfl ?_
            refine g_iald hB 22 1 x (n := 10) (by decide) rfl (by first | assumption | omega) (Nat.le_of_ble_eq_true rfl) dL_slot_29 ?_
            refine g_top (nI (h')) (e5) ?_
            refine g_istore_n hB 3 dL_slot_30 rfl (by decide) ?_
            refine g_iinc hB (nI (k' + 1 + 1)) dL_slot_31 rfl (nI_1 _) (by decide) ?_
            refine g_goto hB 17 dL_slot_34 (by decide) ?_
            exact g_sub _ rfl (ih (k' + 1 + 1) h' (by omega) (by omega) (by omega) (by omega) a6.symm)
        · have e5 : S 22 1 x = -1 := by rw [hN.1 x hxg, hx]; exact pth_end hp hng hg (by omega)
          refine g_iload hB 4 dL_slot_17 rfl ?_
          refine g_iload_n hB 1 dL_slot_19 rfl rfl ?_
          refine n_icmp_ge hB (k' + 1) j 37 dL_slot_20 (by decide) (by omega) (by omega) (fun c_20 => ?_) (fun c_20 => ?_)
          · have hr0 := hret (by omega)
            refine g_iload_n hB 3 dL_slot_37 rfl rfl ?_
            exact g_iret hB hr rfl (Nat.le_of_ble_eq_true rfl) (Nat.le_of_ble_eq_true rfl) (⟨hr0, rfl⟩) dL_slot_38
          · refine g_iload_n hB 3 dL_slot_23 rfl rfl ?_
            refine n_if_lt (tgt := 37) hB _ dL_slot_24 (by decide) (by omega) ?_
            refine g_aload_n hB 2 dL_slot_27 rfl rfl ?_
            refine g_iload_n hB 3 dL_slot_28 rfl rfl ?_
            refine g_iald hB 22 1 x (n := 10) (by decide) rfl (by first | assumption | omega) (Nat.le_of_ble_eq_true rfl) dL_slot_29 ?_
            refine g_top ((-1)) (e5) ?_
            refine g_istore_n hB 3 dL_slot_30 rfl (by decide) ?_
            refine g_iinc hB (nI (k' + 1 + 1)) dL_slot_31 rfl (nI_1 _) (by decide) ?_
            refine g_goto hB 17 dL_slot_34 (by decide) ?_
            exact g_sub _ rfl (back (k' + 1 + 1) (by omega) (by omega))
    refine g_iload_n hB 1 dL_slot_0 rfl rfl ?_
    refine g_if_ne hB 8 dL_slot_1 (by decide) (fun c_1 => ?_) (fun c_1 => ?_)
    · refine g_aload_n hB 2 dL_slot_8 rfl rfl ?_
      refine g_iconst hB (nI 4) dL_slot_9 rfl ?_
      refine g_iload_n hB 0 dL_slot_10 rfl rfl ?_
      refine g_iadd hB dL_slot_11 ?_
      refine g_top (nI (4 + m)) (nI_add _ _) ?_
      refine g_iald hB 22 1 (4 + m) (n := 10) (by decide) rfl (by first | assumption | omega) (Nat.le_of_ble_eq_true rfl) dL_slot_12 ?_
      refine g_top (nI (grp S m)) (e4) ?_
      refine g_istore_n hB 3 dL_slot_13 rfl (by decide) ?_
      refine g_iconst hB (nI 1) dL_slot_14 rfl ?_
      refine g_istore hB 4 dL_slot_15 (by decide) ?_
      exact g_sub _ rfl (loop (j + 1) 1 (grp S m) (by omega) (by omega) h0 hlen.1 hlen.2.2.2.1.symm)
    · exact absurd c_1 (nI_no0 h0 (by omega))
theorem c_L_layers (S : Mem) (ng nm nc t pa rk : Nat) (hL : LR S ng nm nc t pa rk) (hR : RI S ng nm nc t pa) (m : Nat) (hm : m < nm) : CI l yL_layers cL_layers 3 (some .int) { frames := 1, cells := 0, slots := 0, locals := 24 } D ad CNT ca SR (SH ad ca S) [.int (nI m), .ref (ad 22 1)] (PR ad ca (nI (lay (S 18 2) (grp S m)).length) S) := by
  have hld := lay_dup hR hm
  have hnm3 := hL.1.2.2.2.1
  have hng4 := hL.1.2.2.1
  refine CI.of _ RL (by decide +kernel) rfl (Nat.le_of_ble_eq_true rfl) ?_
  intro p9 e9 s9 m9 a9 b9 me9 c9 A9 hB hr hnm9
  have loop : ∀ (n j : Nat), (lay (S 18 2) (grp S m)).length - j < n → 1 ≤ j → j ≤ (lay (S 18 2) (grp S m)).length → G p9 l e9 { frames := 1, cells := 0, slots := 0, locals := 24 } s9 m9 a9 b9 me9 c9 D ad A9 3 (MQ b9 (va_Qi (PR ad ca (nI (lay (S 18 2) (grp S m)).length) S) (fun E' t => WW D ad CNT A9 E' t.heap) A9) a9 s9 0 0 A9) 0 0 CNT (SH ad ca (S)) 2 [(0, .int (nI m)), (1, .ref (ad 22 1)), (2, .int (nI j))] [] := by
    intro n
    induction n with
    | zero => intro j h1; omega
    | succ n ih =>
      intro j h1 h2 h3
      rcases Nat.lt_or_ge j (lay (S 18 2) (grp S m)).length with hlt | hge
      · have hs := (s10_s4 (lay_lt hR hng4 hm hlt)).2
        refine g_iload_n hB 0 dL_layers_2 rfl rfl ?_
        refine g_iload_n hB 2 dL_layers_3 rfl rfl ?_
        refine g_aload_n hB 1 dL_layers_4 rfl rfl ?_
        refine g_callSI hB (c_L_slot _ ng nm nc t pa rk hL hR m hm j h3) k_L_39 yk_L_slot ⟨Nat.le_of_ble_eq_true rfl, Nat.le_of_ble_eq_true rfl⟩ rfl (Nat.le_of_ble_eq_true rfl) ⟨Nat.le_of_ble_eq_true rfl, Nat.le_of_ble_eq_true rfl⟩ dL_layers_5 ?_
        rintro _ _ ⟨rfl, rfl⟩
        refine g_top (nI (s4 ((lay (S 18 2) (grp S m)).getD j 0))) (slV_in hlt) ?_
        refine n_if_lt (tgt := 17) hB _ dL_layers_8 (by decide) (by omega) ?_
        refine g_iinc hB (nI (j + 1)) dL_layers_11 rfl (nI_1 _) (by decide) ?_
        refine g_goto hB 2 dL_layers_14 (by decide) ?_
        exact g_sub _ rfl (ih (j + 1) (by omega) (by omega) (by omega))
      · have hj : j = (lay (S 18 2) (grp S m)).length := by omega
        have hs0 : slV S m j = -1 := by rw [hj]; exact slV_out
        refine g_iload_n hB 0 dL_layers_2 rfl rfl ?_
        refine g_iload_n hB 2 dL_layers_3 rfl rfl ?_
        refine g_aload_n hB 1 dL_layers_4 rfl rfl ?_
        refine g_callSI hB (c_L_slot _ ng nm nc t pa rk hL hR m hm j h3) k_L_39 yk_L_slot ⟨Nat.le_of_ble_eq_true rfl, Nat.le_of_ble_eq_true rfl⟩ rfl (Nat.le_of_ble_eq_true rfl) ⟨Nat.le_of_ble_eq_true rfl, Nat.le_of_ble_eq_true rfl⟩ dL_layers_5 ?_
        rintro _ _ ⟨rfl, rfl⟩
        refine g_top ((-1)) (hs0) ?_
        refine g_if_lt hB 17 dL_layers_8 (by decide) (fun _ => ?_) (fun z => absurd (by decide) z)
        refine g_iload_n hB 2 dL_layers_17 rfl rfl ?_
        exact g_iret hB hr rfl (Nat.le_of_ble_eq_true rfl) (Nat.le_of_ble_eq_true rfl) (⟨by rw [hj], rfl⟩) dL_layers_18
  have h1 : 1 ≤ (lay (S 18 2) (grp S m)).length := by show 1 ≤ (pth (S 18 2) (grp S m)).length + 1; omega
  refine g_iconst hB (nI 1) dL_layers_0 rfl ?_
  refine g_istore_n hB 2 dL_layers_1 rfl (by decide) ?_
  exact g_sub _ rfl (loop ((lay (S 18 2) (grp S m)).length + 1) 1 (by omega) (by omega) h1)

theorem c_L_top (S : Mem) (ng nm nc t pa rk : Nat) (hQ : LQ S ng nm nc t pa rk) (hC : LC S ng nm nc rk) (p k : Nat) (hp : p < 7) (hk : k < 4) : CI l yL_top cL_top 6 (some .int) { frames := 0, cells := 0, slots := 0, locals := 0 } D ad CNT ca SR (SH ad ca S) [.int (nI p), .int (nI k), .ref (ad 22 0), .ref (ad 22 3)] (PR ad ca (nI (oP (mTopI S nc (nI (pl7 p)) (nI k)))) S) := by
  have hQ0 := hQ
  obtain ⟨⟨q0, q1, q2, q3, q4, q5⟩, hng1, hng4, hnm3, hnc12, ht20, hrk20, hpa12⟩ := hQ
  refine CI.of _ RL (by decide +kernel) rfl (Nat.le_of_ble_eq_true rfl) ?_
  intro p9 e9 s9 m9 a9 b9 me9 c9 A9 hB hr hnm9
  have loop : ∀ (n r : Nat), r < n → r ≤ rk → (∀ r', r < r' → r' ≤ rk → ∀ d, d < nc → tpB S p k r' d = false) → G p9 l e9 { frames := 0, cells := 0, slots := 0, locals := 0 } s9 m9 a9 b9 me9 c9 D ad A9 6 (MQ b9 (va_Qi (PR ad ca (nI (oP (mTopI S nc (nI (pl7 p)) (nI k)))) S) (fun E' t => WW D ad CNT A9 E' t.heap) A9) a9 s9 0 0 A9) 0 0 CNT (SH ad ca (S)) 5 [(0, .int (nI p)), (1, .int (nI k)), (2, .ref (ad 22 0)), (3, .ref (ad 22 3)), (4, .int (nI r))] [] := by
    intro n
    induction n with
    | zero => intro r h1; omega
    | succ n ih =>
      intro r h1 h2 h3
      rcases Nat.eq_zero_or_pos r with rfl | h0
      · have hz := tp_none hQ0 hC hp hk (fun r' z1 z2 => h3 r' z1 z2)
        refine g_iload hB 4 dL_top_5 rfl ?_
        refine g_if_le hB 85 dL_top_7 (by decide) (fun _ => ?_) (fun z => absurd (by decide) z)
        refine g_iconst hB (nI 0) dL_top_85 rfl ?_
        exact g_iret hB hr rfl (Nat.le_of_ble_eq_true rfl) (Nat.le_of_ble_eq_true rfl) (⟨by rw [hz]; rfl, rfl⟩) dL_top_86
      · obtain ⟨r, rfl⟩ : ∃ r', r = r' + 1 := ⟨r - 1, by omega⟩
        have inner : ∀ (n' j : Nat), nc - j < n' → j ≤ nc → (∀ d, d < j → tpB S p k (r + 1) d = false) → G p9 l e9 { frames := 0, cells := 0, slots := 0, locals := 0 } s9 m9 a9 b9 me9 c9 D ad A9 6 (MQ b9 (va_Qi (PR ad ca (nI (oP (mTopI S nc (nI (pl7 p)) (nI k)))) S) (fun E' t => WW D ad CNT A9 E' t.heap) A9) a9 s9 0 0 A9) 0 0 CNT (SH ad ca (S)) 13 [(0, .int (nI p)), (1, .int (nI k)), (2, .ref (ad 22 0)), (3, .ref (ad 22 3)), (4, .int (nI (r + 1))), (5, .int (nI j))] [] := by
          intro n'
          induction n' with
          | zero => intro j h4; omega
          | succ n' ih' =>
            intro j h4 h5 h6
            refine g_iload hB 5 dL_top_13 rfl ?_
            refine g_aload_n hB 2 dL_top_15 rfl rfl ?_
            refine g_iconst hB (nI 4) dL_top_16 rfl ?_
            refine g_iald hB 22 0 4 (n := 12) (by decide) rfl (by first | assumption | omega) (Nat.le_of_ble_eq_true rfl) dL_top_17 ?_
            refine g_top (nI (nc)) (q4) ?_
            refine n_icmp_ge hB j nc 79 dL_top_18 (by decide) (by omega) (by omega) (fun c_18 => ?_) (fun c_18 => ?_)
            · 
              refine g_iinc hB ((nI r)) dL_top_79 rfl (lI_pred' r) (by decide) ?_
              refine g_goto hB 5 dL_top_82 (by decide) ?_
              refine g_sub _ rfl (ih r (by omega) (by omega) (fun r' z1 z2 d hd => ?_))
              rcases Nat.lt_or_ge (r + 1) r' with y | y
              · exact h3 r' y z2 d hd
              · rw [show r' = r + 1 by omega]; exact h6 d (by omega)
            · refine g_aload_n hB 3 dL_top_21 rfl rfl ?_
              refine g_iconst hB (nI 5) dL_top_22 rfl ?_
              refine g_iload hB 5 dL_top_23 rfl ?_
              refine g_imul hB dL_top_25 ?_
              refine g_top (nI (5 * j)) (pk_mul _ _) ?_
              refine g_iconst hB (nI 4) dL_top_26 rfl ?_
              refine g_iadd hB dL_top_27 ?_
              refine g_top (nI (5 * j + 4)) (nI_add _ _) ?_
              refine g_iald hB 22 3 (5 * j + 4) (n := 60) (by decide) rfl (by first | assumption | omega) (Nat.le_of_ble_eq_true rfl) dL_top_28 ?_
              refine g_iload hB 4 dL_top_29 rfl ?_
              refine g_icmp_ne hB 73 dL_top_31 (by decide) (fun c_31 => ?_) (fun c_31 => ?_)
              · have e : tpB S p k (r + 1) j = false := by unfold tpB; rw [decide_eq_false c_31]; rfl
                refine g_iinc hB (nI (j + 1)) dL_top_73 rfl (nI_1 _) (by decide) ?_
                refine g_goto hB 13 dL_top_76 (by decide) ?_
                refine g_sub _ rfl (ih' (j + 1) (by omega) (by omega) (fun d hd => ?_))
                rcases Nat.lt_or_ge d j with y | y
                · exact h6 d y
                · rw [show d = j by omega]; exact e
              · refine g_aload_n hB 3 dL_top_34 rfl rfl ?_
                refine g_iconst hB (nI 5) dL_top_35 rfl ?_
                refine g_iload hB 5 dL_top_36 rfl ?_
                refine g_imul hB dL_top_38 ?_
                refine g_top (nI (5 * j)) (pk_mul _ _) ?_
                refine g_iconst hB (nI 3) dL_top_39 rfl ?_
                refine g_iadd hB dL_top_40 ?_
                refine g_top (nI (5 * j + 3)) (nI_add _ _) ?_
                refine g_iald hB 22 3 (5 * j + 3) (n := 60) (by decide) rfl (by first | assumption | omega) (Nat.le_of_ble_eq_true rfl) dL_top_41 ?_
                refine g_iconst hB (nI 1) dL_top_42 rfl ?_
                refine g_icmp_ne hB 73 dL_top_43 (by decide) (fun c_43 => ?_) (fun c_43 => ?_)
                · have e : tpB S p k (r + 1) j = false := by unfold tpB; rw [decide_eq_false (p := S 22 3 (5 * j + 3) = nI 1) c_43, Bool.false_and, Bool.and_false]
                  refine g_iinc hB (nI (j + 1)) dL_top_73 rfl (nI_1 _) (by decide) ?_
                  refine g_goto hB 13 dL_top_76 (by decide) ?_
                  refine g_sub _ rfl (ih' (j + 1) (by omega) (by omega) (fun d hd => ?_))
                  rcases Nat.lt_or_ge d j with y | y
                  · exact h6 d y
                  · rw [show d = j by omega]; exact e
                · refine g_aload_n hB 3 dL_top_46 rfl rfl ?_
                  refine g_iconst hB (nI 5) dL_top_47 rfl ?_
                  refine g_iload hB 5 dL_top_48 rfl ?_
                  refine g_imul hB dL_top_50 ?_
                  refine g_top (nI (5 * j)) (pk_mul _ _) ?_
                  refine g_iald hB 22 3 (5 * j) (n := 60) (by decide) rfl (by first | assumption | omega) (Nat.le_of_ble_eq_true rfl) dL_top_51 ?_
                  refine g_iload_n hB 0 dL_top_52 rfl rfl ?_
                  refine g_icmp_ne hB 73 dL_top_53 (by decide) (fun c_53 => ?_) (fun c_53 => ?_)
                  · have e : tpB S p k (r + 1) j = false := by unfold tpB; rw [decide_eq_false (p := S 22 3 (5 * j) = nI p) c_53, Bool.false_and, Bool.and_false, Bool.and_false]
                    refine g_iinc hB (nI (j + 1)) dL_top_73 rfl (nI_1 _) (by decide) ?_
                    refine g_goto hB 13 dL_top_76 (by decide) ?_
                    refine g_sub _ rfl (ih' (j + 1) (by omega) (by omega) (fun d hd => ?_))
                    rcases Nat.lt_or_ge d j with y | y
                    · exact h6 d y
                    · rw [show d = j by omega]; exact e
                  · refine g_aload_n hB 3 dL_top_56 rfl rfl ?_
                    refine g_iconst hB (nI 5) dL_top_57 rfl ?_
                    refine g_iload hB 5 dL_top_58 rfl ?_
                    refine g_imul hB dL_top_60 ?_
                    refine g_top (nI (5 * j)) (pk_mul _ _) ?_
                    refine g_iconst hB (nI 1) dL_top_61 rfl ?_
                    refine g_iadd hB dL_top_62 ?_
                    refine g_top (nI (5 * j + 1)) (nI_add _ _) ?_
                    refine g_iald hB 22 3 (5 * j + 1) (n := 60) (by decide) rfl (by first | assumption | omega) (Nat.le_of_ble_eq_true rfl) dL_top_63 ?_
                    refine g_iload_n hB 1 dL_top_64 rfl rfl ?_
                    refine g_icmp_ne hB 73 dL_top_65 (by decide) (fun c_65 => ?_) (fun c_65 => ?_)
                    · have e : tpB S p k (r + 1) j = false := by unfold tpB; rw [decide_eq_false (p := S 22 3 (5 * j + 1) = nI k) c_65, Bool.and_false, Bool.and_false, Bool.and_false]
                      refine g_iinc hB (nI (j + 1)) dL_top_73 rfl (nI_1 _) (by decide) ?_
                      refine g_goto hB 13 dL_top_76 (by decide) ?_
                      refine g_sub _ rfl (ih' (j + 1) (by omega) (by omega) (fun d hd => ?_))
                      rcases Nat.lt_or_ge d j with y | y
                      · exact h6 d y
                      · rw [show d = j by omega]; exact e
                    · have e : tpB S p k (r + 1) j = true := by unfold tpB; rw [decide_eq_true c_31, decide_eq_true c_43, decide_eq_true c_53, decide_eq_true c_65]; rfl
                      have hz := tp_some hQ0 hC hp hk c_18 h2 e h6 h3
                      refine g_iload hB 5 dL_top_68 rfl ?_
                      refine g_iconst hB (nI 1) dL_top_70 rfl ?_
                      refine g_iadd hB dL_top_71 ?_
                      refine g_top (nI (j + 1)) (nI_add _ _) ?_
                      exact g_iret hB hr rfl (Nat.le_of_ble_eq_true rfl) (Nat.le_of_ble_eq_true rfl) (⟨by rw [hz]; rfl, rfl⟩) dL_top_72
        refine g_iload hB 4 dL_top_5 rfl ?_
        refine g_if_le hB 85 dL_top_7 (by decide) (fun c_7 => ?_) (fun c_7 => ?_)
        · exact absurd c_7 (eg_le (by omega))
        · refine g_iconst hB (nI 0) dL_top_10 rfl ?_
          refine g_istore hB 5 dL_top_11 (by decide) ?_
          exact g_sub _ rfl (inner (nc + 1) 0 (by omega) (by omega) (fun d hd => absurd hd (Nat.not_lt_zero _)))
  refine g_aload_n hB 2 dL_top_0 rfl rfl ?_
  refine g_iconst hB (nI 5) dL_top_1 rfl ?_
  refine g_iald hB 22 0 5 (n := 12) (by decide) rfl (by first | assumption | omega) (Nat.le_of_ble_eq_true rfl) dL_top_2 ?_
  refine g_top (nI (rk)) (q5) ?_
  refine g_istore hB 4 dL_top_3 (by decide) ?_
  exact g_sub _ rfl (loop (rk + 1) rk (by omega) (Nat.le_refl _) (fun r' z1 z2 => by omega))
theorem c_L_counts (S : Mem) (ng nm nc t pa rk : Nat) (hQ : LQ S ng nm nc t pa rk) (hC : LC S ng nm nc rk) (m s k : Nat) (hm : m < nm) (hs : s ≤ 4) (hk : k < 4) : CI l yL_counts cL_counts 5 (some .int) { frames := 1, cells := 0, slots := 0, locals := 25 } D ad CNT ca SR (SH ad ca S) [.int (nI m), .int (nI s), .int (nI k), .ref (ad 22 0), .ref (ad 22 3)] (PR ad ca (nI (oP (mTop S nc m (s10 s) k))) S) := by
  have hnm3 := hQ.2.2.2.1
  have e0 : mTop S nc m (s10 s) k = mTopI S nc (nI (pl7 (if s = 4 then 4 + m else s))) (nI k) := by unfold mTop; rw [plc_pl7 hs]
  refine CI.of _ RL (by decide +kernel) rfl (Nat.le_of_ble_eq_true rfl) ?_
  intro p9 e9 s9 m9 a9 b9 me9 c9 A9 hB hr hnm9
  by_cases h4 : s = 4
  · subst h4
    rw [e0, if_pos rfl]
    refine g_iload_n hB 1 dL_counts_0 rfl rfl ?_
    refine g_iconst hB (nI 4) dL_counts_1 rfl ?_
    refine n_icmp_ne hB 4 4 11 dL_counts_2 (by decide) (by decide) (by decide) (fun z => absurd z (by decide)) (fun _ => ?_)
    refine g_iconst hB (nI 4) dL_counts_5 rfl ?_
    refine g_iload_n hB 0 dL_counts_6 rfl rfl ?_
    refine g_iadd hB dL_counts_7 ?_
    refine g_top (nI (4 + m)) (nI_add _ _) ?_
    refine g_goto hB 12 dL_counts_8 (by decide) ?_
    refine g_iload_n hB 2 dL_counts_12 rfl rfl ?_
    refine g_aload_n hB 3 dL_counts_13 rfl rfl ?_
    refine g_aload hB 4 dL_counts_14 rfl ?_
    refine g_callSI hB (c_L_top _ ng nm nc t pa rk hQ hC (4 + m) k (by omega) hk) k_L_45 yk_L_top ⟨Nat.le_of_ble_eq_true rfl, Nat.le_of_ble_eq_true rfl⟩ rfl (Nat.le_of_ble_eq_true rfl) ⟨Nat.le_of_ble_eq_true rfl, Nat.le_of_ble_eq_true rfl⟩ dL_counts_16 ?_
    rintro _ _ ⟨rfl, rfl⟩
    exact g_iret hB hr rfl (Nat.le_of_ble_eq_true rfl) (Nat.le_of_ble_eq_true rfl) (⟨rfl, rfl⟩) dL_counts_19
  · rw [e0, if_neg h4]
    refine g_iload_n hB 1 dL_counts_0 rfl rfl ?_
    refine g_iconst hB (nI 4) dL_counts_1 rfl ?_
    refine n_icmp_ne hB s 4 11 dL_counts_2 (by decide) (by omega) (by omega) (fun c_2 => ?_) (fun c_2 => ?_)
    · have d_2 : decide (s = 4) = false := decide_eq_false c_2
      refine g_iload_n hB 1 dL_counts_11 rfl rfl ?_
      refine g_iload_n hB 2 dL_counts_12 rfl rfl ?_
      refine g_aload_n hB 3 dL_counts_13 rfl rfl ?_
      refine g_aload hB 4 dL_counts_14 rfl ?_
      refine g_callSI hB (c_L_top _ ng nm nc t pa rk hQ hC s k (by omega) hk) k_L_45 yk_L_top ⟨Nat.le_of_ble_eq_true rfl, Nat.le_of_ble_eq_true rfl⟩ rfl (Nat.le_of_ble_eq_true rfl) ⟨Nat.le_of_ble_eq_true rfl, Nat.le_of_ble_eq_true rfl⟩ dL_counts_16 ?_
      rintro _ _ ⟨rfl, rfl⟩
      exact g_iret hB hr rfl (Nat.le_of_ble_eq_true rfl) (Nat.le_of_ble_eq_true rfl) (⟨rfl, rfl⟩) dL_counts_19
    · have d_2 : decide (s = 4) = true := decide_eq_true c_2
      exact absurd c_2 h4
end L1
