/-! the start: three objects, then the loop -/
section SB
variable {p : Program} {l : Launch} {e : Env} {R : Room} {s : State} {m : MethodId} {args : Array Value} {below : List Frame} {meth : Method} {c : Code} {D : va_G} {ad : Nat → Nat → Nat} {A : Nat → Prop} {nL : Nat} {Q : State → Prop} {cells slots : Nat} {cn : Nat → Nat} {E : Rl} {lvs : List (Nat × Value)} {st : List Value} {cc : ByteArray} {own : String} {ca : Nat → ClassId} {pc : Nat} {b L : Nat} {xs : Nat → Int32}
theorem g_lvs {lvs' : List (Nat × Value)} (h : lvs = lvs') (kk : G p l e R s m args below meth c D ad A nL Q cells slots cn E pc lvs' st) : G p l e R s m args below meth c D ad A nL Q cells slots cn E pc lvs st := by subst h; exact kk
/-- a cell's content asks only for the addresses of the kinds it names -/
theorem cell_ad {ad ad' : Nat → Nat → Nat} {ca : Nat → ClassId} {k i : Nat} {f : Nat → Int32} (h : ∀ a, a < 19 → a ≠ 17 → ad a = ad' a) (hk : k < 19) : cellOf ad ca k i f = cellOf ad' ca k i f := by
  have h1 := h 1 (by decide) (by decide)
  have h2 := h 2 (by decide) (by decide)
  have h3 := h 3 (by decide) (by decide)
  have h4 := h 4 (by decide) (by decide)
  have h5 := h 5 (by decide) (by decide)
  have h6 := h 6 (by decide) (by decide)
  have h7 := h 7 (by decide) (by decide)
  have h8 := h 8 (by decide) (by decide)
  have h9 := h 9 (by decide) (by decide)
  have h10 := h 10 (by decide) (by decide)
  have h11 := h 11 (by decide) (by decide)
  have h12 := h 12 (by decide) (by decide)
  have h13 := h 13 (by decide) (by decide)
  have h14 := h 14 (by decide) (by decide)
  have h15 := h 15 (by decide) (by decide)
  have h16 := h 16 (by decide) (by decide)
  have h18 := h 18 (by decide) (by decide)
  match k, hk with
  | 0, _ => simp only [cellOf, h1, h2, h3, h4, h12, h15]
  | 1, _ => rfl
  | 2, _ => simp only [cellOf, h5]
  | 3, _ => simp only [cellOf, h6]
  | 4, _ => simp only [cellOf, h9]
  | 5, _ => rfl
  | 6, _ => simp only [cellOf, h7, h8]
  | 7, _ => rfl
  | 8, _ => rfl
  | 9, _ => simp only [cellOf, h10, h11]
  | 10, _ => rfl
  | 11, _ => rfl
  | 12, _ => simp only [cellOf, h13, h14]
  | 13, _ => rfl
  | 14, _ => rfl
  | 15, _ => simp only [cellOf, h16]
  | 16, _ => rfl
  | 17, _ => simp only [cellOf, h18]
  | 18, _ => rfl
  | n + 19, hk => exact absurd hk (by omega)
theorem cell_lo {ad ad' : Nat → Nat → Nat} {ca : Nat → ClassId} {k i : Nat} {f : Nat → Int32} (h : ∀ a, a < 17 → ad a = ad' a) (hk : k < 17) : cellOf ad ca k i f = cellOf ad' ca k i f := by
  have h1 := h 1 (by decide)
  have h2 := h 2 (by decide)
  have h3 := h 3 (by decide)
  have h4 := h 4 (by decide)
  have h5 := h 5 (by decide)
  have h6 := h 6 (by decide)
  have h7 := h 7 (by decide)
  have h8 := h 8 (by decide)
  have h9 := h 9 (by decide)
  have h10 := h 10 (by decide)
  have h11 := h 11 (by decide)
  have h12 := h 12 (by decide)
  have h13 := h 13 (by decide)
  have h14 := h 14 (by decide)
  have h15 := h 15 (by decide)
  have h16 := h 16 (by decide)
  match k, hk with
  | 0, _ => simp only [cellOf, h1, h2, h3, h4, h12, h15]
  | 1, _ => rfl
  | 2, _ => simp only [cellOf, h5]
  | 3, _ => simp only [cellOf, h6]
  | 4, _ => simp only [cellOf, h9]
  | 5, _ => rfl
  | 6, _ => simp only [cellOf, h7, h8]
  | 7, _ => rfl
  | 8, _ => rfl
  | 9, _ => simp only [cellOf, h10, h11]
  | 10, _ => rfl
  | 11, _ => rfl
  | 12, _ => simp only [cellOf, h13, h14]
  | 13, _ => rfl
  | 14, _ => rfl
  | 15, _ => simp only [cellOf, h16]
  | 16, _ => rfl
  | n + 17, hk => exact absurd hk (by omega)
theorem cnt_lo : ∀ k, k ≠ 17 → k ≠ 18 → k ≠ 19 → cnI 8 12 40 k = CNT k
  | 0, _, _, _ => rfl
  | 1, _, _, _ => rfl
  | 2, _, _, _ => rfl
  | 3, _, _, _ => rfl
  | 4, _, _, _ => rfl
  | 5, _, _, _ => rfl
  | 6, _, _, _ => rfl
  | 7, _, _, _ => rfl
  | 8, _, _, _ => rfl
  | 9, _, _, _ => rfl
  | 10, _, _, _ => rfl
  | 11, _, _, _ => rfl
  | 12, _, _, _ => rfl
  | 13, _, _, _ => rfl
  | 14, _, _, _ => rfl
  | 15, _, _, _ => rfl
  | 16, _, _, _ => rfl
  | 17, h, _, _ => absurd rfl h
  | 18, _, h, _ => absurd rfl h
  | 19, _, _, h => absurd rfl h
  | _ + 20, _, _, _ => rfl
theorem cnt_hi : ∀ k, 20 ≤ k → CNT k = 0
  | 0, h => absurd h (by decide)
  | 1, h => absurd h (by decide)
  | 2, h => absurd h (by decide)
  | 3, h => absurd h (by decide)
  | 4, h => absurd h (by decide)
  | 5, h => absurd h (by decide)
  | 6, h => absurd h (by decide)
  | 7, h => absurd h (by decide)
  | 8, h => absurd h (by decide)
  | 9, h => absurd h (by decide)
  | 10, h => absurd h (by decide)
  | 11, h => absurd h (by decide)
  | 12, h => absurd h (by decide)
  | 13, h => absurd h (by decide)
  | 14, h => absurd h (by decide)
  | 15, h => absurd h (by decide)
  | 16, h => absurd h (by decide)
  | 17, h => absurd h (by decide)
  | 18, h => absurd h (by decide)
  | 19, h => absurd h (by decide)
  | _ + 20, _ => rfl
theorem law_begin (hB : MB p s m args meth c cL_law RL 7 D ca SR A) (hX : va_X b L xs s s.heap) (hbl : b < s.heap.size) (hbA : ¬ A b) (hL : L ≤ 2560) (hl : l.stackTraces = false) (hexit : ∀ (ad : Nat → Nat → Nat) (i K N : Nat) (T : Mem), K ≤ 601024 → N ≤ 7293034 → G p l e room_1 s m args below meth c D ad A 7 Q K N CNT (SH ad ca T) 1929 [(0, .ref b), (1, .ref (ad 0 0)), (2, .ref (ad 17 0)), (3, .ref (ad 19 0)), (4, .int (nI i))] []) :
    G p l e room_1 s m args below meth c D (fun _ _ => 0) A 7 Q 0 0 (fun _ => 0) (fun _ _ => .inr (0, [])) 0 [(0, .ref b)] [] := by
  refine g_newo hB (C := RX5) (T := TX5) (N := 16) (ci := 5) in_X5 rfl tyX5 tyX5_ok 0 0 rfl [.int 0, .int 0, .null, .null, .null, .int 0, .null, .int 0, .null, .int 0, .int 0, .int 0, .null, .null, .null, .null] df_X5 tw_cl_L_8 tw_ins_X5 tw_ini_X5 dL_law_0 ⟨Nat.le_of_ble_eq_true rfl, Nat.le_of_ble_eq_true rfl⟩ (fun q0 => ?_)
  refine g_dup hB rfl dL_law_3 ?_
  refine g_callN hB (c_X5_init _ uE_s) (Tw_good (WS_all tw_code_X5_init)) tw_ini_X5 tw_ml_L_104 tw_im_X5_init rfl yk_X5_init ⟨Nat.le_of_ble_eq_true rfl, Nat.le_of_ble_eq_true rfl⟩ (rest := [.ref q0]) (congrArg (fun q => (Value.ref q :: [.ref q0] : List Value)) (adU_s (ad := fun _ _ => 0) (k := 0) (i := 0) (q := q0)).symm) (Nat.le_of_ble_eq_true rfl) ⟨Nat.le_of_ble_eq_true rfl, Nat.le_of_ble_eq_true rfl⟩ dL_law_4 ?_
  rintro a1 E1 ⟨e1, h1⟩
  refine g_EA (E' := SH a1 ca S00) (fun k i H hi => h1 k i hi H) ?_
  refine g_st (st' := [.ref (a1 0 0)]) (by rw [e1, adU_s]) ?_
  refine g_astore_n hB 1 dL_law_7 rfl (by decide) ?_
  refine g_newo hB (C := RX6) (T := TX6) (N := 26) (ci := 6) in_X6 rfl tyX6 tyX6_ok 17 0 rfl [.int 0, .int 0, .null, .null, .int 0, .null, .int 0, .int 0, .null, .null, .null, .int 0, .int 0, .null, .null, .null, .null, .null, .null, .null, .null, .null, .null, .null, .null, .null] df_X6 tw_cl_L_105 tw_ins_X6 tw_ini_X6 dL_law_8 ⟨Nat.le_of_ble_eq_true rfl, Nat.le_of_ble_eq_true rfl⟩ (fun q1 => ?_)
  refine g_dup hB rfl dL_law_11 ?_
  refine g_cn (cn2 := cnM 0) (fun k => ?_) ?_
  · unfold cnU cnM
    by_cases h17 : k = 17
    · rw [if_pos h17, if_pos h17]
    · rw [if_neg h17, if_neg h17]
      by_cases h18 : k = 18
      · rw [if_pos h18, h18]; rfl
      · rw [if_neg h18]
  refine g_callN hB (c_X6_init _ uE_s) (Tw_good (WS_all tw_code_X6_init)) tw_ini_X6 tw_ml_L_107 tw_im_X6_init rfl yk_X6_init ⟨Nat.le_of_ble_eq_true rfl, Nat.le_of_ble_eq_true rfl⟩ (rest := [.ref q1]) (congrArg (fun q => (Value.ref q :: [.ref q1] : List Value)) (adU_s (ad := a1) (k := 17) (i := 0) (q := q1)).symm) (Nat.le_of_ble_eq_true rfl) ⟨Nat.le_of_ble_eq_true rfl, Nat.le_of_ble_eq_true rfl⟩ dL_law_12 ?_
  rintro a2 E2 ⟨f1, f2, f3, f4⟩
  have g17 : a2 17 0 = q1 := (f1 17 0 (by decide)).trans adU_s
  have g0 : ∀ k i, k ≠ 17 → k ≠ 18 → a2 k i = a1 k i := fun k i h h2 => (f1 k i h2).trans (adU_n (fun z => h z.1))
  refine g_st (st' := [.ref (a2 17 0)]) (by rw [g17]) ?_
  refine g_astore_n hB 2 dL_law_15 rfl (by decide) ?_
  refine g_iconst hB (nI 1) dL_law_16 rfl ?_
  refine g_newl hB 19 0 1 rfl (by decide) dL_law_17 ⟨Nat.le_of_ble_eq_true rfl, Nat.le_of_ble_eq_true rfl⟩ (fun q2 => ?_)
  obtain ⟨a3, ea3⟩ : ∃ a3, a3 = adU a2 19 0 q2 := ⟨_, rfl⟩
  rw [← ea3]
  have g19 : a3 19 0 = q2 := by rw [ea3]; exact adU_s
  have gn : ∀ k i, k ≠ 19 → a3 k i = a2 k i := fun k i h => by rw [ea3]; exact adU_n (fun z => h z.1)
  refine g_st (st' := [.ref (a3 19 0)]) (by rw [g19]) ?_
  refine g_astore_n hB 3 dL_law_19 rfl (by decide) ?_
  refine g_iconst hB (nI 0) dL_law_20 rfl ?_
  refine g_istore hB 4 dL_law_21 (by decide) ?_
  refine g_cn (cn2 := CNT) (fun k => ?_) ?_
  · unfold cnU cnM
    by_cases h19 : k = 19
    · rw [if_pos h19, h19]; rfl
    · rw [if_neg h19]
      by_cases h17 : k = 17
      · rw [if_pos h17, h17]; rfl
      · rw [if_neg h17]
        by_cases h18 : k = 18
        · rw [if_pos h18, h18]; rfl
        · rw [if_neg h18]
          exact cnt_lo k h17 h18 h19
  refine g_E (E' := SH a3 ca S00) (fun k i hi => ?_) ?_
  · by_cases h19 : k = 19
    · subst h19
      have hi0 : i = 0 := by have : i < 1 := hi; omega
      subst hi0
      rw [uE_s]
      rfl
    · rw [uE_n (fun z => h19 z.1)]
      by_cases hk : k < 17
      · rw [f2 k i hk, uE_n (fun z => by omega)]
        show cellOf a1 ca k i (S00 k i) = cellOf a3 ca k i (S00 k i)
        have : ∀ a, a < 17 → a1 a = a3 a := fun a ha => funext fun j => by rw [gn a j (by omega), g0 a j (by omega) (by omega)]
        exact cell_lo this hk
      · by_cases h17 : k = 17
        · subst h17
          have hi0 : i = 0 := by have : i < 1 := hi; omega
          subst hi0
          rw [f3]
          exact cell_ad (fun a ha _ => funext fun j => (gn a j (by omega)).symm) (by decide)
        · by_cases h18 : k = 18
          · subst h18
            rw [f4 i hi]
            exact cell_ad (fun a ha _ => funext fun j => (gn a j (by omega)).symm) (by decide)
          · exfalso
            have hz : CNT k = 0 := cnt_hi k (by omega)
            omega
  refine g_lvs (lvs' := [(0, .ref b), (1, .ref (a3 0 0)), (2, .ref (a3 17 0)), (3, .ref (a3 19 0)), (4, .int (nI (5 * 0)))]) (by rw [gn 17 0 (by decide), gn 0 0 (by decide), g0 0 0 (by decide) (by decide)]; rfl) ?_
  refine g_widen (k := 1000 + 4 * 0) (n := 10000 + 24 * 0) (Nat.le_of_ble_eq_true rfl) (Nat.le_of_ble_eq_true rfl) ?_
  exact law_loop hB hX hbl hbA hL hl (hexit a3) 512 0 S00 1 0 0 0 12 0 0 INV_0 (by decide) (by decide) (by omega) (by decide)
end SB
