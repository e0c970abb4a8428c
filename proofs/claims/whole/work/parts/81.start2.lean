/-! the start: three objects, then the loop -/
section SB
variable {p : Program} {l : Launch} {e : Env} {R : Room} {s : State} {m : MethodId} {args : Array Value} {below : List Frame} {meth : Method} {c : Code} {D : va_G} {ad : Nat → Nat → Nat} {A : Nat → Prop} {nL : Nat} {Q : State → Prop} {cells slots : Nat} {cn : Nat → Nat} {E : Rl} {lvs : List (Nat × Value)} {st : List Value} {cc : ByteArray} {own : String} {ca : Nat → ClassId} {pc : Nat} {b L : Nat} {xs : Nat → Int32}
theorem g_lvs {lvs' : List (Nat × Value)} (h : lvs = lvs') (kk : G p l e R s m args below meth c D ad A nL Q cells slots cn E pc lvs' st) : G p l e R s m args below meth c D ad A nL Q cells slots cn E pc lvs st := by subst h; exact kk
/-- a cell's content asks only for the addresses of the class's own kinds -/
theorem cell_lo {ad ad' : Nat → Nat → Nat} {ca : Nat → ClassId} {k i : Nat} {f : Nat → Int32} (h : ∀ a, a ≠ 17 → a ≠ 18 → a ≠ 19 → ad a = ad' a) (hk : k ≠ 17) : cellOf ad ca k i f = cellOf ad' ca k i f := by
  have h1 := h 1 (by decide) (by decide) (by decide)
  have h2 := h 2 (by decide) (by decide) (by decide)
  have h3 := h 3 (by decide) (by decide) (by decide)
  have h4 := h 4 (by decide) (by decide) (by decide)
  have h5 := h 5 (by decide) (by decide) (by decide)
  have h6 := h 6 (by decide) (by decide) (by decide)
  have h7 := h 7 (by decide) (by decide) (by decide)
  have h8 := h 8 (by decide) (by decide) (by decide)
  have h9 := h 9 (by decide) (by decide) (by decide)
  have h10 := h 10 (by decide) (by decide) (by decide)
  have h11 := h 11 (by decide) (by decide) (by decide)
  have h12 := h 12 (by decide) (by decide) (by decide)
  have h13 := h 13 (by decide) (by decide) (by decide)
  have h14 := h 14 (by decide) (by decide) (by decide)
  have h15 := h 15 (by decide) (by decide) (by decide)
  have h16 := h 16 (by decide) (by decide) (by decide)
  have h20 := h 20 (by decide) (by decide) (by decide)
  have h21 := h 21 (by decide) (by decide) (by decide)
  match k, hk with
  | 0, _ => simp only [cellOf, h1, h2, h3, h4, h12, h15]
  | 1, _ => rfl
  | 2, _ => simp only [cellOf, h5]
  | 3, _ => simp only [cellOf, h6]
  | 4, _ => simp only [cellOf, h9]
  | 5, _ => rfl
  | 6, _ => simp only [cellOf, h20, h7]
  | 7, _ => rfl
  | 8, _ => rfl
  | 9, _ => simp only [cellOf, h10, h11]
  | 10, _ => rfl
  | 11, _ => rfl
  | 12, _ => simp only [cellOf, h21, h14]
  | 13, _ => rfl
  | 14, _ => rfl
  | 15, _ => simp only [cellOf, h16]
  | 16, _ => rfl
  | 17, hk => exact absurd rfl hk
  | 18, _ => rfl
  | 19, _ => rfl
  | 20, _ => simp only [cellOf, h8]
  | 21, _ => simp only [cellOf, h13]
  | n + 22, _ => rfl
theorem cell_17 {ad ad' : Nat → Nat → Nat} {ca : Nat → ClassId} {i : Nat} {f : Nat → Int32} (h : ad 18 = ad' 18) : cellOf ad ca 17 i f = cellOf ad' ca 17 i f := by simp only [cellOf, h]
theorem cnt_lo : ∀ k, k ≠ 17 → k ≠ 18 → k ≠ 19 → cnI 8 12 40 k = CNT k
  | 0, _, _, _ => rfl
  | 1, _, _, _ => rfl
  | 2, _, _, _ => rfl
  | 3, _, _, _ => rfl
  | 4, _, _, _ => rfl
  | 5, _, _, _ => rfl
  | 6, _, _, _ => rfl
  | 7, _, _, _ => rfl
  | 8, _, _, _ => rfl
  | 9, _, _, _ => rfl
  | 10, _, _, _ => rfl
  | 11, _, _, _ => rfl
  | 12, _, _, _ => rfl
  | 13, _, _, _ => rfl
  | 14, _, _, _ => rfl
  | 15, _, _, _ => rfl
  | 16, _, _, _ => rfl
  | 17, h, _, _ => absurd rfl h
  | 18, _, h, _ => absurd rfl h
  | 19, _, _, h => absurd rfl h
  | 20, _, _, _ => rfl
  | 21, _, _, _ => rfl
  | _ + 22, _, _, _ => rfl
theorem law_begin (hB : MB p s m args meth c cL_law RL 7 D ca SR A) (hX : va_X b L xs s s.heap) (hbl : b < s.heap.size) (hbA : ¬ A b) (hL : L ≤ 2560) (hl : l.stackTraces = false) (hexit : ∀ (ad : Nat → Nat → Nat) (i K N : Nat) (T : Mem), K ≤ 601024 → N ≤ 7293034 → G p l e room_1 s m args below meth c D ad A 7 Q K N CNT (SH ad ca T) 1929 [(0, .ref b), (1, .ref (ad 0 0)), (2, .ref (ad 17 0)), (3, .ref (ad 19 0)), (4, .int (nI i))] []) :
    G p l e room_1 s m args below meth c D (fun _ _ => 0) A 7 Q 0 0 (fun _ => 0) (fun _ _ => .inr (0, [])) 0 [(0, .ref b)] [] := by
  refine g_newo hB (C := RX5) (T := TX5) (N := 16) (ci := 5) in_X5 rfl tyX5 tyX5_ok 0 0 rfl [.int 0, .int 0, .null, .null, .null, .int 0, .null, .int 0, .null, .int 0, .int 0, .int 0, .null, .null, .null, .null] df_X5 tw_cl_L_8 tw_ins_X5 tw_ini_X5 dL_law_0 ⟨Nat.le_of_ble_eq_true rfl, Nat.le_of_ble_eq_true rfl⟩ (fun q0 => ?_)
  refine g_dup hB rfl dL_law_3 ?_
  refine g_callN hB (c_X5_init _ uE_s) (Tw_good (WS_all tw_code_X5_init)) tw_ini_X5 tw_ml_L_104 tw_im_X5_init rfl yk_X5_init ⟨Nat.le_of_ble_eq_true rfl, Nat.le_of_ble_eq_true rfl⟩ (rest := [.ref q0]) (congrArg (fun q => (Value.ref q :: [.ref q0] : List Value)) (adU_s (ad := fun _ _ => 0) (k := 0) (i := 0) (q := q0)).symm) (Nat.le_of_ble_eq_true rfl) ⟨Nat.le_of_ble_eq_true rfl, Nat.le_of_ble_eq_true rfl⟩ dL_law_4 ?_
  rintro a1 E1 ⟨e1, h1⟩
  refine g_EA (E' := SH a1 ca S00) (fun k i H hi => h1 k i hi H) ?_
  refine g_st (st' := [.ref (a1 0 0)]) (by rw [e1, adU_s]) ?_
  refine g_astore_n hB 1 dL_law_7 rfl (by decide) ?_
  refine g_newo hB (C := RX6) (T := TX6) (N := 26) (ci := 6) in_X6 rfl tyX6 tyX6_ok 17 0 rfl [.int 0, .int 0, .null, .null, .int 0, .null, .int 0, .int 0, .null, .null, .null, .int 0, .int 0, .null, .null, .null, .null, .null, .null, .null, .null, .null, .null, .null, .null, .null] df_X6 tw_cl_L_105 tw_ins_X6 tw_ini_X6 dL_law_8 ⟨Nat.le_of_ble_eq_true rfl, Nat.le_of_ble_eq_true rfl⟩ (fun q1 => ?_)
  refine g_dup hB rfl dL_law_11 ?_
  refine g_cn (cn2 := cnM 0) (fun k => ?_) ?_
  · unfold cnU cnM
    by_cases h17 : k = 17
    · rw [if_pos h17, if_pos h17]
    · rw [if_neg h17, if_neg h17]
      by_cases h18 : k = 18
      · rw [if_pos h18, h18]; rfl
      · rw [if_neg h18]
  refine g_callN hB (c_X6_init _ uE_s) (Tw_good (WS_all tw_code_X6_init)) tw_ini_X6 tw_ml_L_107 tw_im_X6_init rfl yk_X6_init ⟨Nat.le_of_ble_eq_true rfl, Nat.le_of_ble_eq_true rfl⟩ (rest := [.ref q1]) (congrArg (fun q => (Value.ref q :: [.ref q1] : List Value)) (adU_s (ad := a1) (k := 17) (i := 0) (q := q1)).symm) (Nat.le_of_ble_eq_true rfl) ⟨Nat.le_of_ble_eq_true rfl, Nat.le_of_ble_eq_true rfl⟩ dL_law_12 ?_
  rintro a2 E2 ⟨f1, f2, f3, f4⟩
  have g17 : a2 17 0 = q1 := (f1 17 0 (by decide)).trans adU_s
  have g0 : ∀ k i, k ≠ 17 → k ≠ 18 → a2 k i = a1 k i := fun k i h h2 => (f1 k i h2).trans (adU_n (fun z => h z.1))
  refine g_st (st' := [.ref (a2 17 0)]) (by rw [g17]) ?_
  refine g_astore_n hB 2 dL_law_15 rfl (by decide) ?_
  refine g_iconst hB (nI 1) dL_law_16 rfl ?_
  refine g_newl hB 19 0 1 rfl (by decide) dL_law_17 ⟨Nat.le_of_ble_eq_true rfl, Nat.le_of_ble_eq_true rfl⟩ (fun q2 => ?_)
  obtain ⟨a3, ea3⟩ : ∃ a3, a3 = adU a2 19 0 q2 := ⟨_, rfl⟩
  rw [← ea3]
  have g19 : a3 19 0 = q2 := by rw [ea3]; exact adU_s
  have gn : ∀ k i, k ≠ 19 → a3 k i = a2 k i := fun k i h => by rw [ea3]; exact adU_n (fun z => h z.1)
  refine g_st (st' := [.ref (a3 19 0)]) (by rw [g19]) ?_
  refine g_astore_n hB 3 dL_law_19 rfl (by decide) ?_
  refine g_iconst hB (nI 0) dL_law_20 rfl ?_
  refine g_istore hB 4 dL_law_21 (by decide) ?_
  refine g_cn (cn2 := CNT) (fun k => ?_) ?_
  · unfold cnU cnM
    by_cases h19 : k = 19
    · rw [if_pos h19, h19]; rfl
    · rw [if_neg h19]
      by_cases h17 : k = 17
      · rw [if_pos h17, h17]; rfl
      · rw [if_neg h17]
        by_cases h18 : k = 18
        · rw [if_pos h18, h18]; rfl
        · rw [if_neg h18]
          exact cnt_lo k h17 h18 h19
  refine g_E (E' := SH a3 ca S00) (fun k i hi => ?_) ?_
  · by_cases h19 : k = 19
    · subst h19
      have hi0 : i = 0 := by have : i < 1 := hi; omega
      subst hi0
      rw [uE_s]
      rfl
    · rw [uE_n (fun z => h19 z.1)]
      by_cases h17 : k = 17
      · subst h17
        have hi0 : i = 0 := by have : i < 1 := hi; omega
        subst hi0
        rw [f3]
        exact cell_17 (funext fun j => (gn 18 j (by decide)).symm)
      · by_cases h18 : k = 18
        · subst h18
          rw [f4 i hi]
          rfl
        · rw [f2 k i h17 h18, uE_n (fun z => h17 z.1)]
          show cellOf a1 ca k i (S00 k i) = cellOf a3 ca k i (S00 k i)
          exact cell_lo (fun a h1 h2 h3 => funext fun j => by rw [gn a j h3, g0 a j h1 h2]) h17
  refine g_lvs (lvs' := [(0, .ref b), (1, .ref (a3 0 0)), (2, .ref (a3 17 0)), (3, .ref (a3 19 0)), (4, .int (nI (5 * 0)))]) (by rw [gn 17 0 (by decide), gn 0 0 (by decide), g0 0 0 (by decide) (by decide)]; rfl) ?_
  refine g_widen (k := 1000 + 4 * 0) (n := 10000 + 24 * 0) (Nat.le_of_ble_eq_true rfl) (Nat.le_of_ble_eq_true rfl) ?_
  exact law_loop hB hX hbl hbA hL hl (hexit a3) 512 0 S00 1 0 0 0 12 0 0 INV_0 (by decide) (by decide) (by omega) (by decide)
end SB
