/-! the start: the object, seven arrays, what the law writes first -/
section SB
variable {p : Program} {l : Launch} {e : Env} {R : Room} {s : State} {m : MethodId} {args : Array Value} {below : List Frame} {meth : Method} {c : Code} {D : va_G} {ad : Nat → Nat → Nat} {A : Nat → Prop} {nL : Nat} {Q : State → Prop} {cells slots : Nat} {cn : Nat → Nat} {E : Rl} {lvs : List (Nat × Value)} {st : List Value} {cc : ByteArray} {own : String} {ca : Nat → ClassId} {pc : Nat} {b L : Nat} {xs : Nat → Int32}
theorem g_lvs {lvs' : List (Nat × Value)} (h : lvs = lvs') (kk : G p l e R s m args below meth c D ad A nL Q cells slots cn E pc lvs' st) : G p l e R s m args below meth c D ad A nL Q cells slots cn E pc lvs st := by subst h; exact kk
theorem cell_lo {ad ad' : Nat → Nat → Nat} {ca : Nat → ClassId} {k i : Nat} {f : Nat → Int32} (h : ∀ a, a ≠ 22 → ad a = ad' a) : cellOf ad ca k i f = cellOf ad' ca k i f := by
  have h1 := h 1 (by decide)
  have h2 := h 2 (by decide)
  have h3 := h 3 (by decide)
  have h4 := h 4 (by decide)
  have h5 := h 5 (by decide)
  have h6 := h 6 (by decide)
  have h7 := h 7 (by decide)
  have h8 := h 8 (by decide)
  have h9 := h 9 (by decide)
  have h10 := h 10 (by decide)
  have h11 := h 11 (by decide)
  have h12 := h 12 (by decide)
  have h13 := h 13 (by decide)
  have h14 := h 14 (by decide)
  have h15 := h 15 (by decide)
  have h16 := h 16 (by decide)
  have h20 := h 20 (by decide)
  have h21 := h 21 (by decide)
  match k with
  | 0 => simp only [cellOf, h1, h2, h3, h4, h12, h15]
  | 1 => rfl
  | 2 => simp only [cellOf, h5]
  | 3 => simp only [cellOf, h6]
  | 4 => simp only [cellOf, h9]
  | 5 => rfl
  | 6 => simp only [cellOf, h20, h7]
  | 7 => rfl
  | 8 => rfl
  | 9 => simp only [cellOf, h10, h11]
  | 10 => rfl
  | 11 => rfl
  | 12 => simp only [cellOf, h21, h14]
  | 13 => rfl
  | 14 => rfl
  | 15 => simp only [cellOf, h16]
  | 16 => rfl
  | 17 => rfl
  | 18 => rfl
  | 19 => rfl
  | 20 => simp only [cellOf, h8]
  | 21 => simp only [cellOf, h13]
  | 22 => rfl
  | n + 23 => rfl
theorem cnt_lo : ∀ k, k ≠ 22 → cnI 8 12 40 k = CNT k
  | 0, _ => rfl
  | 1, _ => rfl
  | 2, _ => rfl
  | 3, _ => rfl
  | 4, _ => rfl
  | 5, _ => rfl
  | 6, _ => rfl
  | 7, _ => rfl
  | 8, _ => rfl
  | 9, _ => rfl
  | 10, _ => rfl
  | 11, _ => rfl
  | 12, _ => rfl
  | 13, _ => rfl
  | 14, _ => rfl
  | 15, _ => rfl
  | 16, _ => rfl
  | 17, _ => rfl
  | 18, _ => rfl
  | 19, _ => rfl
  | 20, _ => rfl
  | 21, _ => rfl
  | 22, h => absurd rfl h
  | _ + 23, _ => rfl
theorem df_X5 : ∀ j, j < 16 → defaultValue (tyX5 j) = vp_V [.int 0, .int 0, .null, .null, .null, .int 0, .null, .int 0, .null, .int 0, .int 0, .int 0, .null, .null, .null, .null] j := by decide +kernel
/-- the memory with which the turns begin -/
def S01 : Mem := uM (uM (uM (uM (uM (uM (uM S00 22 0 1 (nI 12)) 22 0 2 (nI 1)) 22 1 0 (-1)) 22 0 6 (nI 255)) 22 0 7 (nI 255)) 22 0 8 (nI 255)) 22 0 9 (nI 255)
theorem S01_22 {k : Nat} (h : k ≠ 22) : S01 k = S00 k := by
  funext i j
  simp [S01, uM_ap, h]
theorem LR_0 : LR S01 1 0 0 0 12 0 := by
  have e5 : S01 18 5 = ovl z0 0 792 (fun _ => -1) := rfl
  refine ⟨⟨⟨rfl, rfl, rfl, rfl, rfl, rfl⟩, by decide, by decide, by decide, by decide, by decide, by decide, by decide⟩, fun i hi => ?_, fun q hq => ?_, ⟨fun g hg => ?_, fun m hm => absurd hm (Nat.not_lt_zero _), fun m hm => ?_⟩, fun m hm s hs k hk => Or.inl ⟨?_, ?_⟩, fun m hm s hs k hk _ => ?_, fun c hc => absurd hc (Nat.not_lt_zero _), fun c _ hc => ⟨?_, ?_⟩, fun c hc => ⟨fun q hq => Or.inr ⟨?_, ?_⟩, fun q _ hq => ?_⟩, fun c hc => absurd hc (Nat.not_lt_zero _), fun k hk o ho => ?_⟩
  · rcases (show i = 0 ∨ i = 1 ∨ i = 2 ∨ i = 3 by omega) with rfl | rfl | rfl | rfl <;> rfl
  · rcases (show q = 0 ∨ q = 1 ∨ q = 2 ∨ q = 3 ∨ q = 4 by omega) with rfl | rfl | rfl | rfl | rfl <;> exact ⟨Or.inl rfl, by decide +kernel, by decide +kernel⟩
  · have : g = 0 := by omega
    subst this
    rfl
  · refine ⟨0, 0, by decide, by decide, ?_, rfl, Or.inl rfl⟩
    rcases (show m = 0 ∨ m = 1 ∨ m = 2 by omega) with rfl | rfl | rfl <;> rfl
  · rw [e5]
    have h10 : s10 s ≤ 10 := by unfold s10; split <;> omega
    have := ovl_in (f := z0) (b := 0) (v := fun _ => (-1 : Int32)) (show 6 * (11 * m + s10 s) + k < 792 by omega)
    rw [Nat.zero_add] at this
    exact this
  · rfl
  · rw [e5]
    have := ovl_in (f := z0) (b := 0) (v := fun _ => (-1 : Int32)) (show 6 * (11 * m + s) + k < 792 by omega)
    rw [Nat.zero_add] at this
    exact this
  · rfl
  · rfl
  · show (0 : Int32) ≠ nI 1
    decide
  · show (0 : Int32) ≤ 0
    decide
  · show (0 : Int32) ≠ nI 1
    decide
  · show cntI 0 (nI o) = bitI 0 (nI o)
    exact cnt_bit 0 _
theorem TI_0 : TI S01 0 := ⟨1, 0, 0, 0, 12, 0, 0, INV_cg INV_0 (fun k _ h22 => S01_22 h22), LR_0, fun m hm => absurd hm (Nat.not_lt_zero _), by decide, by decide⟩

theorem law_begin (hB : MB p s m args meth c cL_law RL 14 D ca SR A) (hX : va_X b L xs s s.heap) (hbl : b < s.heap.size) (hbA : ¬ A b) (hL260 : L ≤ 260) (hl : l.stackTraces = false) (hexit : ∀ (ad : Nat → Nat → Nat) (S : Mem) (K N : Nat) (lvs : List (Nat × Value)), K ≤ 600104 → N ≤ 7301314 → G p l e room_1 s m args below meth c D ad A 14 Q K N CNT (SH ad ca S) 497 lvs [.int (nI 1)]) :
    G p l e room_1 s m args below meth c D (fun _ _ => 0) A 14 Q 0 0 (fun _ => 0) (fun _ _ => .inr (0, [])) 0 [(0, .ref b)] [] := by
  refine g_newo hB (C := RX5) (T := TX5) (N := 16) (ci := 5) in_X5 rfl tyX5 tyX5_ok 0 0 rfl [.int 0, .int 0, .null, .null, .null, .int 0, .null, .int 0, .null, .int 0, .int 0, .int 0, .null, .null, .null, .null] df_X5 tw_cl_L_11 tw_ins_X5 tw_ini_X5 dL_law_0 ⟨Nat.le_of_ble_eq_true rfl, Nat.le_of_ble_eq_true rfl⟩ (fun r0 => ?_)
  refine g_dup hB rfl dL_law_3 ?_
  refine g_callN hB (c_X5_init _ uE_s) (Tw_good (WS_all tw_code_X5_init)) tw_ini_X5 tw_ml_L_171 tw_im_X5_init rfl yk_X5_init ⟨Nat.le_of_ble_eq_true rfl, Nat.le_of_ble_eq_true rfl⟩ (rest := [.ref r0]) (congrArg (fun q => (Value.ref q :: [.ref r0] : List Value)) (adU_s (ad := fun _ _ => 0) (k := 0) (i := 0) (q := r0)).symm) (Nat.le_of_ble_eq_true rfl) ⟨Nat.le_of_ble_eq_true rfl, Nat.le_of_ble_eq_true rfl⟩ dL_law_4 ?_
  rintro a1 E1 ⟨e1, h1⟩
  refine g_EA (E' := SH a1 ca S00) (fun k i H hi => h1 k i hi H) ?_
  refine g_st (st' := [.ref (a1 0 0)]) (by rw [e1, adU_s]) ?_
  refine g_astore_n hB 1 dL_law_7 rfl (by decide) ?_
  refine g_bipush hB (nI 12) dL_law_8 rfl ?_
  refine g_newa hB 22 0 12 rfl (by decide) dL_law_10 ⟨Nat.le_of_ble_eq_true rfl, Nat.le_of_ble_eq_true rfl⟩ (fun q0 => ?_)
  refine g_astore_n hB 2 dL_law_12 rfl (by decide) ?_
  refine g_bipush hB (nI 10) dL_law_13 rfl ?_
  refine g_newa hB 22 1 10 rfl (by decide) dL_law_15 ⟨Nat.le_of_ble_eq_true rfl, Nat.le_of_ble_eq_true rfl⟩ (fun q1 => ?_)
  refine g_astore_n hB 3 dL_law_17 rfl (by decide) ?_
  refine g_bipush hB (nI 60) dL_law_18 rfl ?_
  refine g_newa hB 22 2 60 rfl (by decide) dL_law_20 ⟨Nat.le_of_ble_eq_true rfl, Nat.le_of_ble_eq_true rfl⟩ (fun q2 => ?_)
  refine g_astore hB 4 dL_law_22 (by decide) ?_
  refine g_bipush hB (nI 60) dL_law_24 rfl ?_
  refine g_newa hB 22 3 60 rfl (by decide) dL_law_26 ⟨Nat.le_of_ble_eq_true rfl, Nat.le_of_ble_eq_true rfl⟩ (fun q3 => ?_)
  refine g_astore hB 5 dL_law_28 (by decide) ?_
  refine g_bipush hB (nI 60) dL_law_30 rfl ?_
  refine g_newa hB 22 4 60 rfl (by decide) dL_law_32 ⟨Nat.le_of_ble_eq_true rfl, Nat.le_of_ble_eq_true rfl⟩ (fun q4 => ?_)
  refine g_astore hB 6 dL_law_34 (by decide) ?_
  refine g_bipush hB (nI 24) dL_law_36 rfl ?_
  refine g_newa hB 22 5 24 rfl (by decide) dL_law_38 ⟨Nat.le_of_ble_eq_true rfl, Nat.le_of_ble_eq_true rfl⟩ (fun q5 => ?_)
  refine g_astore hB 7 dL_law_40 (by decide) ?_
  refine g_iconst hB (nI 4) dL_law_42 rfl ?_
  refine g_newa hB 22 6 4 rfl (by decide) dL_law_43 ⟨Nat.le_of_ble_eq_true rfl, Nat.le_of_ble_eq_true rfl⟩ (fun q6 => ?_)
  refine g_astore hB 8 dL_law_45 (by decide) ?_

  obtain ⟨ad, ead⟩ : ∃ ad, ad = adU (adU (adU (adU (adU (adU (adU (a1) 22 0 q0) 22 1 q1) 22 2 q2) 22 3 q3) 22 4 q4) 22 5 q5) 22 6 q6 := ⟨_, rfl⟩
  rw [← ead]
  have gn : ∀ k, k ≠ 22 → a1 k = ad k := fun k h => by rw [ead]; funext i; simp [adU, h]
  have g0 : ad 22 0 = q0 := by rw [ead]; simp [adU]
  have g1 : ad 22 1 = q1 := by rw [ead]; simp [adU]
  have g2 : ad 22 2 = q2 := by rw [ead]; simp [adU]
  have g3 : ad 22 3 = q3 := by rw [ead]; simp [adU]
  have g4 : ad 22 4 = q4 := by rw [ead]; simp [adU]
  have g5 : ad 22 5 = q5 := by rw [ead]; simp [adU]
  have g6 : ad 22 6 = q6 := by rw [ead]; simp [adU]
  refine g_cn (cn2 := CNT) (fun k => ?_) ?_
  · by_cases h22 : k = 22
    · subst h22; rfl
    · simp only [cnU, if_neg h22]
      exact cnt_lo k h22
  refine g_E (E' := SH ad ca S00) (fun k i hi => ?_) ?_
  · by_cases h22 : k = 22
    · subst h22
      have hi7 : i < 7 := hi
      rcases (show i = 0 ∨ i = 1 ∨ i = 2 ∨ i = 3 ∨ i = 4 ∨ i = 5 ∨ i = 6 by omega) with rfl | rfl | rfl | rfl | rfl | rfl | rfl <;> (simp only [uE]; rfl)
    · simp only [uE, h22, false_and, if_false]
      exact cell_lo gn
  refine g_lvs (lvs' := [(0, .ref b), (1, .ref (ad 0 0)), (2, .ref (ad 22 0)), (3, .ref (ad 22 1)), (4, .ref (ad 22 2)), (5, .ref (ad 22 3)), (6, .ref (ad 22 4)), (7, .ref (ad 22 5)), (8, .ref (ad 22 6))]) (by rw [g0, g1, g2, g3, g4, g5, g6, ← gn 0 (by decide)]; rfl) ?_
  clear ead gn g0 g1 g2 g3 g4 g5 g6
  refine g_aload_n hB 2 dL_law_47 rfl rfl ?_
  refine g_iconst hB (nI 1) dL_law_48 rfl ?_
  refine g_bipush hB (nI 12) dL_law_49 rfl ?_
  refine s_iast hB 22 0 1 (n := 12) (by decide) (fun _ => rfl) (by first | assumption | omega) (Nat.le_of_ble_eq_true rfl) dL_law_51 ?_
  refine g_aload_n hB 2 dL_law_52 rfl rfl ?_
  refine g_iconst hB (nI 2) dL_law_53 rfl ?_
  refine g_iconst hB (nI 1) dL_law_54 rfl ?_
  refine s_iast hB 22 0 2 (n := 12) (by decide) (fun _ => rfl) (by first | assumption | omega) (Nat.le_of_ble_eq_true rfl) dL_law_55 ?_
  refine g_aload_n hB 3 dL_law_56 rfl rfl ?_
  refine g_iconst hB (nI 0) dL_law_57 rfl ?_
  refine g_iconst hB (-1) dL_law_58 rfl ?_
  refine s_iast hB 22 1 0 (n := 10) (by decide) (fun _ => rfl) (by first | assumption | omega) (Nat.le_of_ble_eq_true rfl) dL_law_59 ?_
  refine g_bipush hB (nI 6) dL_law_60 rfl ?_
  refine g_istore hB 9 dL_law_62 (by decide) ?_
  refine g_iload hB 9 dL_law_64 rfl ?_
  refine g_bipush hB (nI 10) dL_law_66 rfl ?_
  refine n_icmp_ge hB 6 10 84 dL_law_68 (by decide) (by decide) (by decide) (fun z => absurd z (by decide)) (fun _ => ?_)
  refine g_aload_n hB 2 dL_law_71 rfl rfl ?_
  refine g_iload hB 9 dL_law_72 rfl ?_
  refine g_sipush hB (nI 255) dL_law_74 rfl ?_
  refine s_iast hB 22 0 6 (n := 12) (by decide) (fun _ => rfl) (by first | assumption | omega) (Nat.le_of_ble_eq_true rfl) dL_law_77 ?_
  refine g_iinc hB (nI (7)) dL_law_78 rfl (nI_1 _) (by decide) ?_
  refine g_goto hB 64 dL_law_81 (by decide) ?_
  refine g_iload hB 9 dL_law_64 rfl ?_
  refine g_bipush hB (nI 10) dL_law_66 rfl ?_
  refine n_icmp_ge hB 7 10 84 dL_law_68 (by decide) (by decide) (by decide) (fun z => absurd z (by decide)) (fun _ => ?_)
  refine g_aload_n hB 2 dL_law_71 rfl rfl ?_
  refine g_iload hB 9 dL_law_72 rfl ?_
  refine g_sipush hB (nI 255) dL_law_74 rfl ?_
  refine s_iast hB 22 0 7 (n := 12) (by decide) (fun _ => rfl) (by first | assumption | omega) (Nat.le_of_ble_eq_true rfl) dL_law_77 ?_
  refine g_iinc hB (nI (8)) dL_law_78 rfl (nI_1 _) (by decide) ?_
  refine g_goto hB 64 dL_law_81 (by decide) ?_
  refine g_iload hB 9 dL_law_64 rfl ?_
  refine g_bipush hB (nI 10) dL_law_66 rfl ?_
  refine n_icmp_ge hB 8 10 84 dL_law_68 (by decide) (by decide) (by decide) (fun z => absurd z (by decide)) (fun _ => ?_)
  refine g_aload_n hB 2 dL_law_71 rfl rfl ?_
  refine g_iload hB 9 dL_law_72 rfl ?_
  refine g_sipush hB (nI 255) dL_law_74 rfl ?_
  refine s_iast hB 22 0 8 (n := 12) (by decide) (fun _ => rfl) (by first | assumption | omega) (Nat.le_of_ble_eq_true rfl) dL_law_77 ?_
  refine g_iinc hB (nI (9)) dL_law_78 rfl (nI_1 _) (by decide) ?_
  refine g_goto hB 64 dL_law_81 (by decide) ?_
  refine g_iload hB 9 dL_law_64 rfl ?_
  refine g_bipush hB (nI 10) dL_law_66 rfl ?_
  refine n_icmp_ge hB 9 10 84 dL_law_68 (by decide) (by decide) (by decide) (fun z => absurd z (by decide)) (fun _ => ?_)
  refine g_aload_n hB 2 dL_law_71 rfl rfl ?_
  refine g_iload hB 9 dL_law_72 rfl ?_
  refine g_sipush hB (nI 255) dL_law_74 rfl ?_
  refine s_iast hB 22 0 9 (n := 12) (by decide) (fun _ => rfl) (by first | assumption | omega) (Nat.le_of_ble_eq_true rfl) dL_law_77 ?_
  refine g_iinc hB (nI (10)) dL_law_78 rfl (nI_1 _) (by decide) ?_
  refine g_goto hB 64 dL_law_81 (by decide) ?_
  refine g_iload hB 9 dL_law_64 rfl ?_
  refine g_bipush hB (nI 10) dL_law_66 rfl ?_
  refine n_icmp_ge hB 10 10 84 dL_law_68 (by decide) (by decide) (by decide) (fun _ => ?_) (fun z => absurd z (by decide))
  refine g_iconst hB (nI 0) dL_law_84 rfl ?_
  refine g_istore hB 9 dL_law_85 (by decide) ?_
  refine g_widen (k := 1000 + 2000 * 0) (n := 10000 + 12000 * 0) (Nat.le_of_ble_eq_true rfl) (Nat.le_of_ble_eq_true rfl) ?_
  exact g_sub [(0, .ref b), (1, .ref (ad 0 0)), (2, .ref (ad 22 0)), (3, .ref (ad 22 1)), (4, .ref (ad 22 2)), (5, .ref (ad 22 3)), (6, .ref (ad 22 4)), (7, .ref (ad 22 5)), (8, .ref (ad 22 6)), (9, .int (nI 0))] rfl (law_turns hl hB hX hbl hbA hL260 (hexit ad) 91 0 S01 (by decide) (by decide) TI_0)
end SB
