/-! the public methods: what machines have -/
section X9
variable {l : Launch} {D : va_G} {ad : Nat → Nat → Nat} {ca : Nat → ClassId}
theorem c_X5_taken (hl : l.stackTraces = false) (S : Mem) (ng nm nc t pa : Nat) (h : KI S ng nm nc t pa) (x y z : Int32) : CXI l yX5_taken cX5_taken 5 (some .int) { frames := 7, cells := 3, slots := 18, locals := 103 } D ad CNT ca SR (SH ad ca S) [.ref (ad 0 0), .int (x), .int (y), .int (z)] (PRm ad ca (taC S x y z nm) (S 8 (ix x) ((clay S (ix x)).getD (ix y) 0 * 6 + ix z)) (S)) (PXm [xIO] (taC S x y z nm)) := by
  have h0 := h
  obtain ⟨⟨hg, hng0, hng⟩, ⟨hm, hnm⟩, ⟨hc, hnc⟩, ⟨ht, htb⟩, ⟨hpa, hpab⟩, hpar, hmk, hcell, hown⟩ := h
  refine CXI.of _ RX5 (by decide +kernel) rfl (Nat.le_of_ble_eq_true rfl) ?_
  intro p9 e9 s9 m9 a9 b9 me9 c9 A9 hB hr hex
  refine g_aload_n hB 0 dX5_taken_0 rfl rfl ?_
  refine g_iload_n hB 1 dX5_taken_1 rfl rfl ?_
  refine g_callXVV hB hex (c_X5_requireMachine hl _ x nm hm hnm) k_X5_136 rfl yk_X5_requireMachine ⟨Nat.le_of_ble_eq_true rfl, Nat.le_of_ble_eq_true rfl⟩ ⟨(by decide), _, _, _, rfl, rfl, rfl⟩ rfl (Nat.le_of_ble_eq_true rfl) ⟨Nat.le_of_ble_eq_true rfl, Nat.le_of_ble_eq_true rfl⟩ dX5_taken_2 ⟨Nat.le_of_ble_eq_true rfl, Nat.le_of_ble_eq_true rfl⟩ (fun X hX => px1 hX.1 (by simp only [taC, hX.2, cond_true, cond_false, decide_true, decide_false, Bool.and_true, Bool.true_and, Bool.and_false, Bool.false_and, Bool.or_true, Bool.true_or, Bool.or_false, Bool.false_or, Bool.not_true, Bool.not_false, not_true_eq_false, not_false_eq_true, ne_eq, Option.isSome])) ?_
  rintro _ ⟨q_2, rfl⟩
  obtain ⟨i, hi, rfl⟩ := rgB_t q_2
  have ii : ix (nI i) = i := ix_nI (by omega)
  refine g_aload_n hB 0 dX5_taken_5 rfl rfl ?_
  refine g_get (ci := 5) (T := TX5) (N := 16) hB in_X5 rfl 0 0 6 (by decide) (by decide) rfl tw_fl_X5_31 rfl dX5_taken_6 ?_
  refine g_iload_n hB 1 dX5_taken_9 rfl rfl ?_
  refine g_aald hB 3 0 i 2 (n := 12) (by decide) rfl rfl (by first | assumption | omega) (Nat.le_of_ble_eq_true rfl) rfl dX5_taken_10 ?_
  refine g_astore hB 4 dX5_taken_11 (by decide) ?_
  have hL := hmk i hi
  have hlen := hL.2.1
  refine g_aload hB 4 dX5_taken_13 rfl ?_
  refine g_iload_n hB 2 dX5_taken_15 rfl rfl ?_
  refine g_callVI hB (c_X2_hasLayer _ i (by omega) _ hL y) k_X5_231 rfl yk_X2_hasLayer ⟨Nat.le_of_ble_eq_true rfl, Nat.le_of_ble_eq_true rfl⟩ ⟨(show i < 12 by first | assumption | omega), _, _, _, rfl, rfl, rfl⟩ rfl (Nat.le_of_ble_eq_true rfl) ⟨Nat.le_of_ble_eq_true rfl, Nat.le_of_ble_eq_true rfl⟩ dX5_taken_16 ?_
  rintro _ _ ⟨rfl, rfl⟩
  refine b_if_ne hB (rgB y (clay S i).length) 32 dX5_taken_19 (by decide) (fun c_19 => ?_) (fun c_19 => ?_)
  · obtain ⟨j, hj, rfl⟩ := rgB_t c_19
    have ij : ix (nI j) = j := ix_nI (by omega)
    have hsj := (hL.2.2 j hj).2
    refine g_iload_n hB 3 dX5_taken_32 rfl rfl ?_
    refine g_callXSV hB hex (c_X5_requireKey hl _ z) k_X5_158 yk_X5_requireKey ⟨Nat.le_of_ble_eq_true rfl, Nat.le_of_ble_eq_true rfl⟩ rfl (Nat.le_of_ble_eq_true rfl) ⟨Nat.le_of_ble_eq_true rfl, Nat.le_of_ble_eq_true rfl⟩ dX5_taken_33 ⟨Nat.le_of_ble_eq_true rfl, Nat.le_of_ble_eq_true rfl⟩ (fun X hX => px1 hX.1 (by simp only [taC, q_2, ii, c_19, hX.2, cond_true, cond_false, decide_true, decide_false, Bool.and_true, Bool.true_and, Bool.and_false, Bool.false_and, Bool.or_true, Bool.true_or, Bool.or_false, Bool.false_or, Bool.not_true, Bool.not_false, not_true_eq_false, not_false_eq_true, ne_eq, Option.isSome])) ?_
    rintro _ ⟨q_33, rfl⟩
    obtain ⟨k, hk, rfl⟩ := rgB_t q_33
    have ik : ix (nI k) = k := ix_nI (by omega)
    refine g_aload hB 4 dX5_taken_36 rfl ?_
    refine g_get (ci := 2) (T := TX2) (N := 6) hB in_X2 rfl 6 i 4 (show i < 12 by first | assumption | omega) (by decide) rfl tw_fl_X5_239 rfl dX5_taken_38 ?_
    refine g_aload hB 4 dX5_taken_41 rfl ?_
    refine g_iload_n hB 2 dX5_taken_43 rfl rfl ?_
    refine g_iload_n hB 3 dX5_taken_44 rfl rfl ?_
    refine g_callVI hB (c_X2_cellIn _ i (by omega) _ hL j hj k) k_X5_242 rfl yk_X2_cellIn ⟨Nat.le_of_ble_eq_true rfl, Nat.le_of_ble_eq_true rfl⟩ ⟨(show i < 12 by first | assumption | omega), _, _, _, rfl, rfl, rfl⟩ rfl (Nat.le_of_ble_eq_true rfl) ⟨Nat.le_of_ble_eq_true rfl, Nat.le_of_ble_eq_true rfl⟩ dX5_taken_45 ?_
    rintro _ _ ⟨rfl, rfl⟩
    refine g_callVI hB (c_X9_get8 _ i (by omega) ((clay S i).getD j 0 * 6 + k) (by omega)) k_X5_223 rfl yk_X9_get ⟨Nat.le_of_ble_eq_true rfl, Nat.le_of_ble_eq_true rfl⟩ ⟨(show i < 12 by first | assumption | omega), _, _, _, rfl, rfl, rfl⟩ rfl (Nat.le_of_ble_eq_true rfl) ⟨Nat.le_of_ble_eq_true rfl, Nat.le_of_ble_eq_true rfl⟩ dX5_taken_48 ?_
    rintro _ _ ⟨rfl, rfl⟩
    exact g_ixret hB hr rfl (Nat.le_of_ble_eq_true rfl) (Nat.le_of_ble_eq_true rfl) (⟨by simp only [taC, q_2, ii, c_19, q_33, ik, cond_true, cond_false, decide_true, decide_false, Bool.and_true, Bool.true_and, Bool.and_false, Bool.false_and, Bool.or_true, Bool.true_or, Bool.or_false, Bool.false_or, Bool.not_true, Bool.not_false, not_true_eq_false, not_false_eq_true, ne_eq, Option.isSome], by rw [ii, ij, ik], rfl⟩) dX5_taken_51
  · exact g_throwS hl hB hex "no such layer" th_IO (List.mem_of_getElem? (i := 8) rfl) dX5_taken_22 dX5_taken_25 dX5_taken_26 dX5_taken_28 dX5_taken_31 ⟨Nat.le_of_ble_eq_true rfl, Nat.le_of_ble_eq_true rfl, Nat.le_of_ble_eq_true rfl, Nat.le_of_ble_eq_true rfl⟩ ⟨Nat.le_of_ble_eq_true rfl, Nat.le_of_ble_eq_true rfl⟩ (px1 rfl (by simp only [taC, q_2, ii, c_19, cond_true, cond_false, decide_true, decide_false, Bool.and_true, Bool.true_and, Bool.and_false, Bool.false_and, Bool.or_true, Bool.true_or, Bool.or_false, Bool.false_or, Bool.not_true, Bool.not_false, not_true_eq_false, not_false_eq_true, ne_eq, Option.isSome]))

theorem c_X5_runs (hl : l.stackTraces = false) (S : Mem) (ng nm nc t pa : Nat) (h : KI S ng nm nc t pa) (x y : Int32) : CXI l yX5_runs cX5_runs 3 (some .int) { frames := 7, cells := 2, slots := 12, locals := 115 } D ad CNT ca SR (SH ad ca S) [.ref (ad 0 0), .int (x), .int (y)] (PRm ad ca (r2C x y nm) (vsh (ruM S nc (ix x)) (ix y)) (ruM S nc (ix x))) (PXm [xIO] (r2C x y nm)) := by
  have h0 := h
  obtain ⟨⟨hg, hng0, hng⟩, ⟨hm, hnm⟩, ⟨hc, hnc⟩, ⟨ht, htb⟩, ⟨hpa, hpab⟩, hpar, hmk, hcell, hown⟩ := h
  refine CXI.of _ RX5 (by decide +kernel) rfl (Nat.le_of_ble_eq_true rfl) ?_
  intro p9 e9 s9 m9 a9 b9 me9 c9 A9 hB hr hex
  refine g_aload_n hB 0 dX5_runs_0 rfl rfl ?_
  refine g_iload_n hB 1 dX5_runs_1 rfl rfl ?_
  refine g_callXVV hB hex (c_X5_requireMachine hl _ x nm hm hnm) k_X5_136 rfl yk_X5_requireMachine ⟨Nat.le_of_ble_eq_true rfl, Nat.le_of_ble_eq_true rfl⟩ ⟨(by decide), _, _, _, rfl, rfl, rfl⟩ rfl (Nat.le_of_ble_eq_true rfl) ⟨Nat.le_of_ble_eq_true rfl, Nat.le_of_ble_eq_true rfl⟩ dX5_runs_2 ⟨Nat.le_of_ble_eq_true rfl, Nat.le_of_ble_eq_true rfl⟩ (fun X hX => px1 hX.1 (by simp only [r2C, hX.2, cond_true, cond_false, decide_true, decide_false, Bool.and_true, Bool.true_and, Bool.and_false, Bool.false_and, Bool.or_true, Bool.true_or, Bool.or_false, Bool.false_or, Bool.not_true, Bool.not_false, not_true_eq_false, not_false_eq_true, ne_eq, Option.isSome])) ?_
  rintro _ ⟨q_2, rfl⟩
  obtain ⟨i, hi, rfl⟩ := rgB_t q_2
  have ii : ix (nI i) = i := ix_nI (by omega)
  refine g_iload_n hB 2 dX5_runs_5 rfl rfl ?_
  refine g_callXSV hB hex (c_X5_requireKey hl _ y) k_X5_158 yk_X5_requireKey ⟨Nat.le_of_ble_eq_true rfl, Nat.le_of_ble_eq_true rfl⟩ rfl (Nat.le_of_ble_eq_true rfl) ⟨Nat.le_of_ble_eq_true rfl, Nat.le_of_ble_eq_true rfl⟩ dX5_runs_6 ⟨Nat.le_of_ble_eq_true rfl, Nat.le_of_ble_eq_true rfl⟩ (fun X hX => px1 hX.1 (by simp only [r2C, q_2, ii, hX.2, cond_true, cond_false, decide_true, decide_false, Bool.and_true, Bool.true_and, Bool.and_false, Bool.false_and, Bool.or_true, Bool.true_or, Bool.or_false, Bool.false_or, Bool.not_true, Bool.not_false, not_true_eq_false, not_false_eq_true, ne_eq, Option.isSome])) ?_
  rintro _ ⟨q_6, rfl⟩
  obtain ⟨k, hk, rfl⟩ := rgB_t q_6
  have ik : ix (nI k) = k := ix_nI (by omega)
  refine g_aload_n hB 0 dX5_runs_9 rfl rfl ?_
  refine g_aload_n hB 0 dX5_runs_10 rfl rfl ?_
  refine g_get (ci := 5) (T := TX5) (N := 16) hB in_X5 rfl 0 0 6 (by decide) (by decide) rfl tw_fl_X5_31 rfl dX5_runs_11 ?_
  refine g_iload_n hB 1 dX5_runs_14 rfl rfl ?_
  refine g_aald hB 3 0 i 2 (n := 12) (by decide) rfl rfl (by first | assumption | omega) (Nat.le_of_ble_eq_true rfl) rfl dX5_runs_15 ?_
  refine g_callVV hB (c_X5_findRunning _ nc hc hnc i (by omega) _ (hmk i hi)) k_X5_245 rfl yk_X5_findRunning ⟨Nat.le_of_ble_eq_true rfl, Nat.le_of_ble_eq_true rfl⟩ ⟨(by decide), _, _, _, rfl, rfl, rfl⟩ rfl (Nat.le_of_ble_eq_true rfl) ⟨Nat.le_of_ble_eq_true rfl, Nat.le_of_ble_eq_true rfl⟩ dX5_runs_16 ?_
  rintro _ rfl
  refine g_aload_n hB 0 dX5_runs_19 rfl rfl ?_
  refine g_get (ci := 5) (T := TX5) (N := 16) hB in_X5 rfl 0 0 15 (by decide) (by decide) rfl tw_fl_X5_57 rfl dX5_runs_20 ?_
  refine g_iload_n hB 2 dX5_runs_23 rfl rfl ?_
  refine g_callVI hB (c_X3_valueIfShown _ k hk) k_X5_249 rfl yk_X3_valueIfShown ⟨Nat.le_of_ble_eq_true rfl, Nat.le_of_ble_eq_true rfl⟩ ⟨(by decide), _, _, _, rfl, rfl, rfl⟩ rfl (Nat.le_of_ble_eq_true rfl) ⟨Nat.le_of_ble_eq_true rfl, Nat.le_of_ble_eq_true rfl⟩ dX5_runs_24 ?_
  rintro _ _ ⟨rfl, rfl⟩
  exact g_ixret hB hr rfl (Nat.le_of_ble_eq_true rfl) (Nat.le_of_ble_eq_true rfl) (⟨by simp only [r2C, q_2, ii, q_6, ik, cond_true, cond_false, decide_true, decide_false, Bool.and_true, Bool.true_and, Bool.and_false, Bool.false_and, Bool.or_true, Bool.true_or, Bool.or_false, Bool.false_or, Bool.not_true, Bool.not_false, not_true_eq_false, not_false_eq_true, ne_eq, Option.isSome], by rw [ii, ik]; rfl, by rw [ii]; rfl⟩) dX5_runs_27
theorem c_X5_layerOf (hl : l.stackTraces = false) (S : Mem) (ng nm nc t pa : Nat) (h : KI S ng nm nc t pa) (x y : Int32) : CXI l yX5_layerOf cX5_layerOf 3 (some .int) { frames := 7, cells := 2, slots := 12, locals := 115 } D ad CNT ca SR (SH ad ca S) [.ref (ad 0 0), .int (x), .int (y)] (PRm ad ca (r2C x y nm) (loV (ruM S nc (ix x)) (ix y)) (ruM S nc (ix x))) (PXm [xIO] (r2C x y nm)) := by
  have h0 := h
  obtain ⟨⟨hg, hng0, hng⟩, ⟨hm, hnm⟩, ⟨hc, hnc⟩, ⟨ht, htb⟩, ⟨hpa, hpab⟩, hpar, hmk, hcell, hown⟩ := h
  refine CXI.of _ RX5 (by decide +kernel) rfl (Nat.le_of_ble_eq_true rfl) ?_
  intro p9 e9 s9 m9 a9 b9 me9 c9 A9 hB hr hex
  refine g_aload_n hB 0 dX5_layerOf_0 rfl rfl ?_
  refine g_iload_n hB 1 dX5_layerOf_1 rfl rfl ?_
  refine g_callXVV hB hex (c_X5_requireMachine hl _ x nm hm hnm) k_X5_136 rfl yk_X5_requireMachine ⟨Nat.le_of_ble_eq_true rfl, Nat.le_of_ble_eq_true rfl⟩ ⟨(by decide), _, _, _, rfl, rfl, rfl⟩ rfl (Nat.le_of_ble_eq_true rfl) ⟨Nat.le_of_ble_eq_true rfl, Nat.le_of_ble_eq_true rfl⟩ dX5_layerOf_2 ⟨Nat.le_of_ble_eq_true rfl, Nat.le_of_ble_eq_true rfl⟩ (fun X hX => px1 hX.1 (by simp only [r2C, hX.2, cond_true, cond_false, decide_true, decide_false, Bool.and_true, Bool.true_and, Bool.and_false, Bool.false_and, Bool.or_true, Bool.true_or, Bool.or_false, Bool.false_or, Bool.not_true, Bool.not_false, not_true_eq_false, not_false_eq_true, ne_eq, Option.isSome])) ?_
  rintro _ ⟨q_2, rfl⟩
  obtain ⟨i, hi, rfl⟩ := rgB_t q_2
  have ii : ix (nI i) = i := ix_nI (by omega)
  refine g_iload_n hB 2 dX5_layerOf_5 rfl rfl ?_
  refine g_callXSV hB hex (c_X5_requireKey hl _ y) k_X5_158 yk_X5_requireKey ⟨Nat.le_of_ble_eq_true rfl, Nat.le_of_ble_eq_true rfl⟩ rfl (Nat.le_of_ble_eq_true rfl) ⟨Nat.le_of_ble_eq_true rfl, Nat.le_of_ble_eq_true rfl⟩ dX5_layerOf_6 ⟨Nat.le_of_ble_eq_true rfl, Nat.le_of_ble_eq_true rfl⟩ (fun X hX => px1 hX.1 (by simp only [r2C, q_2, ii, hX.2, cond_true, cond_false, decide_true, decide_false, Bool.and_true, Bool.true_and, Bool.and_false, Bool.false_and, Bool.or_true, Bool.true_or, Bool.or_false, Bool.false_or, Bool.not_true, Bool.not_false, not_true_eq_false, not_false_eq_true, ne_eq, Option.isSome])) ?_
  rintro _ ⟨q_6, rfl⟩
  obtain ⟨k, hk, rfl⟩ := rgB_t q_6
  have ik : ix (nI k) = k := ix_nI (by omega)
  refine g_aload_n hB 0 dX5_layerOf_9 rfl rfl ?_
  refine g_aload_n hB 0 dX5_layerOf_10 rfl rfl ?_
  refine g_get (ci := 5) (T := TX5) (N := 16) hB in_X5 rfl 0 0 6 (by decide) (by decide) rfl tw_fl_X5_31 rfl dX5_layerOf_11 ?_
  refine g_iload_n hB 1 dX5_layerOf_14 rfl rfl ?_
  refine g_aald hB 3 0 i 2 (n := 12) (by decide) rfl rfl (by first | assumption | omega) (Nat.le_of_ble_eq_true rfl) rfl dX5_layerOf_15 ?_
  refine g_callVV hB (c_X5_findRunning _ nc hc hnc i (by omega) _ (hmk i hi)) k_X5_245 rfl yk_X5_findRunning ⟨Nat.le_of_ble_eq_true rfl, Nat.le_of_ble_eq_true rfl⟩ ⟨(by decide), _, _, _, rfl, rfl, rfl⟩ rfl (Nat.le_of_ble_eq_true rfl) ⟨Nat.le_of_ble_eq_true rfl, Nat.le_of_ble_eq_true rfl⟩ dX5_layerOf_16 ?_
  rintro _ rfl
  refine g_aload_n hB 0 dX5_layerOf_19 rfl rfl ?_
  refine g_get (ci := 5) (T := TX5) (N := 16) hB in_X5 rfl 0 0 15 (by decide) (by decide) rfl tw_fl_X5_57 rfl dX5_layerOf_20 ?_
  refine g_iload_n hB 2 dX5_layerOf_23 rfl rfl ?_
  refine g_callVI hB (c_X3_layerIfShown _ k hk) k_X5_252 rfl yk_X3_layerIfShown ⟨Nat.le_of_ble_eq_true rfl, Nat.le_of_ble_eq_true rfl⟩ ⟨(by decide), _, _, _, rfl, rfl, rfl⟩ rfl (Nat.le_of_ble_eq_true rfl) ⟨Nat.le_of_ble_eq_true rfl, Nat.le_of_ble_eq_true rfl⟩ dX5_layerOf_24 ?_
  rintro _ _ ⟨rfl, rfl⟩
  exact g_ixret hB hr rfl (Nat.le_of_ble_eq_true rfl) (Nat.le_of_ble_eq_true rfl) (⟨by simp only [r2C, q_2, ii, q_6, ik, cond_true, cond_false, decide_true, decide_false, Bool.and_true, Bool.true_and, Bool.and_false, Bool.false_and, Bool.or_true, Bool.true_or, Bool.or_false, Bool.false_or, Bool.not_true, Bool.not_false, not_true_eq_false, not_false_eq_true, ne_eq, Option.isSome], by rw [ii, ik]; rfl, by rw [ii]; rfl⟩) dX5_layerOf_27
theorem c_X5_due (hl : l.stackTraces = false) (S : Mem) (ng nm nc t pa : Nat) (h : KI S ng nm nc t pa) (x y : Int32) : CXI l yX5_due cX5_due 3 (some .int) { frames := 7, cells := 2, slots := 12, locals := 103 } D ad CNT ca SR (SH ad ca S) [.ref (ad 0 0), .int (x), .int (y)] (PRm ad ca (r2C x y nm) (vsh (duM S nc (ix x)) (ix y)) (duM S nc (ix x))) (PXm [xIO] (r2C x y nm)) := by
  have h0 := h
  obtain ⟨⟨hg, hng0, hng⟩, ⟨hm, hnm⟩, ⟨hc, hnc⟩, ⟨ht, htb⟩, ⟨hpa, hpab⟩, hpar, hmk, hcell, hown⟩ := h
  refine CXI.of _ RX5 (by decide +kernel) rfl (Nat.le_of_ble_eq_true rfl) ?_
  intro p9 e9 s9 m9 a9 b9 me9 c9 A9 hB hr hex
  refine g_aload_n hB 0 dX5_due_0 rfl rfl ?_
  refine g_iload_n hB 1 dX5_due_1 rfl rfl ?_
  refine g_callXVV hB hex (c_X5_requireMachine hl _ x nm hm hnm) k_X5_136 rfl yk_X5_requireMachine ⟨Nat.le_of_ble_eq_true rfl, Nat.le_of_ble_eq_true rfl⟩ ⟨(by decide), _, _, _, rfl, rfl, rfl⟩ rfl (Nat.le_of_ble_eq_true rfl) ⟨Nat.le_of_ble_eq_true rfl, Nat.le_of_ble_eq_true rfl⟩ dX5_due_2 ⟨Nat.le_of_ble_eq_true rfl, Nat.le_of_ble_eq_true rfl⟩ (fun X hX => px1 hX.1 (by simp only [r2C, hX.2, cond_true, cond_false, decide_true, decide_false, Bool.and_true, Bool.true_and, Bool.and_false, Bool.false_and, Bool.or_true, Bool.true_or, Bool.or_false, Bool.false_or, Bool.not_true, Bool.not_false, not_true_eq_false, not_false_eq_true, ne_eq, Option.isSome])) ?_
  rintro _ ⟨q_2, rfl⟩
  obtain ⟨i, hi, rfl⟩ := rgB_t q_2
  have ii : ix (nI i) = i := ix_nI (by omega)
  refine g_iload_n hB 2 dX5_due_5 rfl rfl ?_
  refine g_callXSV hB hex (c_X5_requireKey hl _ y) k_X5_158 yk_X5_requireKey ⟨Nat.le_of_ble_eq_true rfl, Nat.le_of_ble_eq_true rfl⟩ rfl (Nat.le_of_ble_eq_true rfl) ⟨Nat.le_of_ble_eq_true rfl, Nat.le_of_ble_eq_true rfl⟩ dX5_due_6 ⟨Nat.le_of_ble_eq_true rfl, Nat.le_of_ble_eq_true rfl⟩ (fun X hX => px1 hX.1 (by simp only [r2C, q_2, ii, hX.2, cond_true, cond_false, decide_true, decide_false, Bool.and_true, Bool.true_and, Bool.and_false, Bool.false_and, Bool.or_true, Bool.true_or, Bool.or_false, Bool.false_or, Bool.not_true, Bool.not_false, not_true_eq_false, not_false_eq_true, ne_eq, Option.isSome])) ?_
  rintro _ ⟨q_6, rfl⟩
  obtain ⟨k, hk, rfl⟩ := rgB_t q_6
  have ik : ix (nI k) = k := ix_nI (by omega)
  refine g_aload_n hB 0 dX5_due_9 rfl rfl ?_
  refine g_aload_n hB 0 dX5_due_10 rfl rfl ?_
  refine g_get (ci := 5) (T := TX5) (N := 16) hB in_X5 rfl 0 0 6 (by decide) (by decide) rfl tw_fl_X5_31 rfl dX5_due_11 ?_
  refine g_iload_n hB 1 dX5_due_14 rfl rfl ?_
  refine g_aald hB 3 0 i 2 (n := 12) (by decide) rfl rfl (by first | assumption | omega) (Nat.le_of_ble_eq_true rfl) rfl dX5_due_15 ?_
  refine g_aload_n hB 0 dX5_due_16 rfl rfl ?_
  refine g_get (ci := 5) (T := TX5) (N := 16) hB in_X5 rfl 0 0 13 (by decide) (by decide) rfl tw_fl_X5_47 rfl dX5_due_17 ?_
  refine g_get (ci := 1) (T := TX1) (N := 2) hB in_X1 rfl 12 0 0 (by decide) (by decide) rfl tw_fl_X5_219 rfl dX5_due_20 ?_
  refine g_aload_n hB 0 dX5_due_23 rfl rfl ?_
  refine g_get (ci := 5) (T := TX5) (N := 16) hB in_X5 rfl 0 0 13 (by decide) (by decide) rfl tw_fl_X5_47 rfl dX5_due_24 ?_
  refine g_callVV hB (c_X5_findOutcome_h _ nc hc hnc i (by omega) _ (hmk i hi)) k_X5_255 rfl yk_X5_findOutcome ⟨Nat.le_of_ble_eq_true rfl, Nat.le_of_ble_eq_true rfl⟩ ⟨(by decide), _, _, _, rfl, rfl, rfl⟩ rfl (Nat.le_of_ble_eq_true rfl) ⟨Nat.le_of_ble_eq_true rfl, Nat.le_of_ble_eq_true rfl⟩ dX5_due_27 ?_
  rintro _ rfl
  refine g_aload_n hB 0 dX5_due_30 rfl rfl ?_
  refine g_get (ci := 5) (T := TX5) (N := 16) hB in_X5 rfl 0 0 15 (by decide) (by decide) rfl tw_fl_X5_57 rfl dX5_due_31 ?_
  refine g_iload_n hB 2 dX5_due_34 rfl rfl ?_
  refine g_callVI hB (c_X3_valueIfShown _ k hk) k_X5_249 rfl yk_X3_valueIfShown ⟨Nat.le_of_ble_eq_true rfl, Nat.le_of_ble_eq_true rfl⟩ ⟨(by decide), _, _, _, rfl, rfl, rfl⟩ rfl (Nat.le_of_ble_eq_true rfl) ⟨Nat.le_of_ble_eq_true rfl, Nat.le_of_ble_eq_true rfl⟩ dX5_due_35 ?_
  rintro _ _ ⟨rfl, rfl⟩
  exact g_ixret hB hr rfl (Nat.le_of_ble_eq_true rfl) (Nat.le_of_ble_eq_true rfl) (⟨by simp only [r2C, q_2, ii, q_6, ik, cond_true, cond_false, decide_true, decide_false, Bool.and_true, Bool.true_and, Bool.and_false, Bool.false_and, Bool.or_true, Bool.true_or, Bool.or_false, Bool.false_or, Bool.not_true, Bool.not_false, not_true_eq_false, not_false_eq_true, ne_eq, Option.isSome], by rw [ii, ik]; rfl, by rw [ii]; rfl⟩) dX5_due_38
theorem anM_fr {S : Mem} {n k i : Nat} (h : k ≠ 13) (h2 : k ≠ 14) : anM S n k i = S k i := by
  unfold anM
  rw [uS_n (fun z => h z.1), uS_n (fun z => h2 z.1)]
theorem c_X5_dueAnew (hl : l.stackTraces = false) (S : Mem) (ng nm nc t pa : Nat) (h : KI S ng nm nc t pa) (hau : ∀ c, c < nc → ∃ a, a < 8 ∧ S 9 c 0 = nI a) (x y : Int32) : CXI l yX5_dueAnew cX5_dueAnew 3 (some .int) { frames := 7, cells := 2, slots := 12, locals := 103 } D ad CNT ca SR (SH ad ca S) [.ref (ad 0 0), .int (x), .int (y)] (PRm ad ca (r2C x y nm) (vsh (daM S nc (ix x)) (ix y)) (daM S nc (ix x))) (PXm [xIO] (r2C x y nm)) := by
  have h0 := h
  obtain ⟨⟨hg, hng0, hng⟩, ⟨hm, hnm⟩, ⟨hc, hnc⟩, ⟨ht, htb⟩, ⟨hpa, hpab⟩, hpar, hmk, hcell, hown⟩ := h
  refine CXI.of _ RX5 (by decide +kernel) rfl (Nat.le_of_ble_eq_true rfl) ?_
  intro p9 e9 s9 m9 a9 b9 me9 c9 A9 hB hr hex
  refine g_aload_n hB 0 dX5_dueAnew_0 rfl rfl ?_
  refine g_iload_n hB 1 dX5_dueAnew_1 rfl rfl ?_
  refine g_callXVV hB hex (c_X5_requireMachine hl _ x nm hm hnm) k_X5_136 rfl yk_X5_requireMachine ⟨Nat.le_of_ble_eq_true rfl, Nat.le_of_ble_eq_true rfl⟩ ⟨(by decide), _, _, _, rfl, rfl, rfl⟩ rfl (Nat.le_of_ble_eq_true rfl) ⟨Nat.le_of_ble_eq_true rfl, Nat.le_of_ble_eq_true rfl⟩ dX5_dueAnew_2 ⟨Nat.le_of_ble_eq_true rfl, Nat.le_of_ble_eq_true rfl⟩ (fun X hX => px1 hX.1 (by simp only [r2C, hX.2, cond_true, cond_false, decide_true, decide_false, Bool.and_true, Bool.true_and, Bool.and_false, Bool.false_and, Bool.or_true, Bool.true_or, Bool.or_false, Bool.false_or, Bool.not_true, Bool.not_false, not_true_eq_false, not_false_eq_true, ne_eq, Option.isSome])) ?_
  rintro _ ⟨q_2, rfl⟩
  obtain ⟨i, hi, rfl⟩ := rgB_t q_2
  have ii : ix (nI i) = i := ix_nI (by omega)
  refine g_iload_n hB 2 dX5_dueAnew_5 rfl rfl ?_
  refine g_callXSV hB hex (c_X5_requireKey hl _ y) k_X5_158 yk_X5_requireKey ⟨Nat.le_of_ble_eq_true rfl, Nat.le_of_ble_eq_true rfl⟩ rfl (Nat.le_of_ble_eq_true rfl) ⟨Nat.le_of_ble_eq_true rfl, Nat.le_of_ble_eq_true rfl⟩ dX5_dueAnew_6 ⟨Nat.le_of_ble_eq_true rfl, Nat.le_of_ble_eq_true rfl⟩ (fun X hX => px1 hX.1 (by simp only [r2C, q_2, ii, hX.2, cond_true, cond_false, decide_true, decide_false, Bool.and_true, Bool.true_and, Bool.and_false, Bool.false_and, Bool.or_true, Bool.true_or, Bool.or_false, Bool.false_or, Bool.not_true, Bool.not_false, not_true_eq_false, not_false_eq_true, ne_eq, Option.isSome])) ?_
  rintro _ ⟨q_6, rfl⟩
  obtain ⟨k, hk, rfl⟩ := rgB_t q_6
  have ik : ix (nI k) = k := ix_nI (by omega)
  refine g_aload_n hB 0 dX5_dueAnew_9 rfl rfl ?_
  refine g_callVV hB (c_X5_findHeadsAnew _ nc hc hnc hcell hau) k_X5_259 rfl yk_X5_findHeadsAnew ⟨Nat.le_of_ble_eq_true rfl, Nat.le_of_ble_eq_true rfl⟩ ⟨(by decide), _, _, _, rfl, rfl, rfl⟩ rfl (Nat.le_of_ble_eq_true rfl) ⟨Nat.le_of_ble_eq_true rfl, Nat.le_of_ble_eq_true rfl⟩ dX5_dueAnew_10 ?_
  rintro _ rfl
  refine g_aload_n hB 0 dX5_dueAnew_13 rfl rfl ?_
  refine g_aload_n hB 0 dX5_dueAnew_14 rfl rfl ?_
  refine g_get (ci := 5) (T := TX5) (N := 16) hB in_X5 rfl 0 0 6 (by decide) (by decide) rfl tw_fl_X5_31 rfl dX5_dueAnew_15 ?_
  refine g_iload_n hB 1 dX5_dueAnew_18 rfl rfl ?_
  refine g_aald hB 3 0 i 2 (n := 12) (by decide) rfl rfl (by first | assumption | omega) (Nat.le_of_ble_eq_true rfl) rfl dX5_dueAnew_19 ?_
  refine g_aload_n hB 0 dX5_dueAnew_20 rfl rfl ?_
  refine g_get (ci := 5) (T := TX5) (N := 16) hB in_X5 rfl 0 0 14 (by decide) (by decide) rfl tw_fl_X5_51 rfl dX5_dueAnew_21 ?_
  refine g_get (ci := 1) (T := TX1) (N := 2) hB in_X1 rfl 12 1 0 (by decide) (by decide) rfl tw_fl_X5_219 rfl dX5_dueAnew_24 ?_
  refine g_aload_n hB 0 dX5_dueAnew_27 rfl rfl ?_
  refine g_get (ci := 5) (T := TX5) (N := 16) hB in_X5 rfl 0 0 14 (by decide) (by decide) rfl tw_fl_X5_51 rfl dX5_dueAnew_28 ?_
  refine g_callVV hB (c_X5_findOutcome_a _ nc (by rw [anM_fr (by decide) (by decide)]; exact hc) hnc i (by omega) (clay S i) (MK_fr (anM_fr (by decide) (by decide)) (anM_fr (by decide) (by decide)) (hmk i hi))) k_X5_255 rfl yk_X5_findOutcome ⟨Nat.le_of_ble_eq_true rfl, Nat.le_of_ble_eq_true rfl⟩ ⟨(by decide), _, _, _, rfl, rfl, rfl⟩ rfl (Nat.le_of_ble_eq_true rfl) ⟨Nat.le_of_ble_eq_true rfl, Nat.le_of_ble_eq_true rfl⟩ dX5_dueAnew_31 ?_
  rintro _ rfl
  refine g_aload_n hB 0 dX5_dueAnew_34 rfl rfl ?_
  refine g_get (ci := 5) (T := TX5) (N := 16) hB in_X5 rfl 0 0 15 (by decide) (by decide) rfl tw_fl_X5_57 rfl dX5_dueAnew_35 ?_
  refine g_iload_n hB 2 dX5_dueAnew_38 rfl rfl ?_
  refine g_callVI hB (c_X3_valueIfShown _ k hk) k_X5_249 rfl yk_X3_valueIfShown ⟨Nat.le_of_ble_eq_true rfl, Nat.le_of_ble_eq_true rfl⟩ ⟨(by decide), _, _, _, rfl, rfl, rfl⟩ rfl (Nat.le_of_ble_eq_true rfl) ⟨Nat.le_of_ble_eq_true rfl, Nat.le_of_ble_eq_true rfl⟩ dX5_dueAnew_39 ?_
  rintro _ _ ⟨rfl, rfl⟩
  exact g_ixret hB hr rfl (Nat.le_of_ble_eq_true rfl) (Nat.le_of_ble_eq_true rfl) (⟨by simp only [r2C, q_2, ii, q_6, ik, cond_true, cond_false, decide_true, decide_false, Bool.and_true, Bool.true_and, Bool.and_false, Bool.false_and, Bool.or_true, Bool.true_or, Bool.or_false, Bool.false_or, Bool.not_true, Bool.not_false, not_true_eq_false, not_false_eq_true, ne_eq, Option.isSome], by rw [ii, ik]; rfl, by rw [ii]; rfl⟩) dX5_dueAnew_42
theorem c_X5_hidden (hl : l.stackTraces = false) (S : Mem) (ng nm nc t pa : Nat) (h : KI S ng nm nc t pa) (x : Int32) : CXI l yX5_hidden cX5_hidden 2 (some .int) { frames := 7, cells := 1, slots := 6, locals := 103 } D ad CNT ca SR (SH ad ca S) [.ref (ad 0 0), .int (x)] (PRm ad ca (rqC x nm) (duM S nc (ix x) 15 0 3) (duM S nc (ix x))) (PXm [xIO] (rqC x nm)) := by
  have h0 := h
  obtain ⟨⟨hg, hng0, hng⟩, ⟨hm, hnm⟩, ⟨hc, hnc⟩, ⟨ht, htb⟩, ⟨hpa, hpab⟩, hpar, hmk, hcell, hown⟩ := h
  refine CXI.of _ RX5 (by decide +kernel) rfl (Nat.le_of_ble_eq_true rfl) ?_
  intro p9 e9 s9 m9 a9 b9 me9 c9 A9 hB hr hex
  refine g_aload_n hB 0 dX5_hidden_0 rfl rfl ?_
  refine g_iload_n hB 1 dX5_hidden_1 rfl rfl ?_
  refine g_callXVV hB hex (c_X5_requireMachine hl _ x nm hm hnm) k_X5_136 rfl yk_X5_requireMachine ⟨Nat.le_of_ble_eq_true rfl, Nat.le_of_ble_eq_true rfl⟩ ⟨(by decide), _, _, _, rfl, rfl, rfl⟩ rfl (Nat.le_of_ble_eq_true rfl) ⟨Nat.le_of_ble_eq_true rfl, Nat.le_of_ble_eq_true rfl⟩ dX5_hidden_2 ⟨Nat.le_of_ble_eq_true rfl, Nat.le_of_ble_eq_true rfl⟩ (fun X hX => px1 hX.1 (by simp only [rqC, hX.2, cond_true, cond_false, decide_true, decide_false, Bool.and_true, Bool.true_and, Bool.and_false, Bool.false_and, Bool.or_true, Bool.true_or, Bool.or_false, Bool.false_or, Bool.not_true, Bool.not_false, not_true_eq_false, not_false_eq_true, ne_eq, Option.isSome])) ?_
  rintro _ ⟨q_2, rfl⟩
  obtain ⟨i, hi, rfl⟩ := rgB_t q_2
  have ii : ix (nI i) = i := ix_nI (by omega)
  refine g_aload_n hB 0 dX5_hidden_5 rfl rfl ?_
  refine g_aload_n hB 0 dX5_hidden_6 rfl rfl ?_
  refine g_get (ci := 5) (T := TX5) (N := 16) hB in_X5 rfl 0 0 6 (by decide) (by decide) rfl tw_fl_X5_31 rfl dX5_hidden_7 ?_
  refine g_iload_n hB 1 dX5_hidden_10 rfl rfl ?_
  refine g_aald hB 3 0 i 2 (n := 12) (by decide) rfl rfl (by first | assumption | omega) (Nat.le_of_ble_eq_true rfl) rfl dX5_hidden_11 ?_
  refine g_aload_n hB 0 dX5_hidden_12 rfl rfl ?_
  refine g_get (ci := 5) (T := TX5) (N := 16) hB in_X5 rfl 0 0 13 (by decide) (by decide) rfl tw_fl_X5_47 rfl dX5_hidden_13 ?_
  refine g_get (ci := 1) (T := TX1) (N := 2) hB in_X1 rfl 12 0 0 (by decide) (by decide) rfl tw_fl_X5_219 rfl dX5_hidden_16 ?_
  refine g_aload_n hB 0 dX5_hidden_19 rfl rfl ?_
  refine g_get (ci := 5) (T := TX5) (N := 16) hB in_X5 rfl 0 0 13 (by decide) (by decide) rfl tw_fl_X5_47 rfl dX5_hidden_20 ?_
  refine g_callVV hB (c_X5_findOutcome_h _ nc hc hnc i (by omega) _ (hmk i hi)) k_X5_255 rfl yk_X5_findOutcome ⟨Nat.le_of_ble_eq_true rfl, Nat.le_of_ble_eq_true rfl⟩ ⟨(by decide), _, _, _, rfl, rfl, rfl⟩ rfl (Nat.le_of_ble_eq_true rfl) ⟨Nat.le_of_ble_eq_true rfl, Nat.le_of_ble_eq_true rfl⟩ dX5_hidden_23 ?_
  rintro _ rfl
  refine g_aload_n hB 0 dX5_hidden_26 rfl rfl ?_
  refine g_get (ci := 5) (T := TX5) (N := 16) hB in_X5 rfl 0 0 15 (by decide) (by decide) rfl tw_fl_X5_57 rfl dX5_hidden_27 ?_
  refine g_get (ci := 3) (T := TX3) (N := 4) hB in_X3 rfl 15 0 3 (by decide) (by decide) rfl tw_fl_X5_269 rfl dX5_hidden_30 ?_
  exact g_ixret hB hr rfl (Nat.le_of_ble_eq_true rfl) (Nat.le_of_ble_eq_true rfl) (⟨by simp only [rqC, q_2, ii, cond_true, cond_false, decide_true, decide_false, Bool.and_true, Bool.true_and, Bool.and_false, Bool.false_and, Bool.or_true, Bool.true_or, Bool.or_false, Bool.false_or, Bool.not_true, Bool.not_false, not_true_eq_false, not_false_eq_true, ne_eq, Option.isSome], by rw [ii]; rfl, by rw [ii]; rfl⟩) dX5_hidden_33

theorem c_X5_behind (hl : l.stackTraces = false) (S : Mem) (ng nm nc t pa : Nat) (h : KI S ng nm nc t pa) (x : Int32) : CXI l yX5_behind cX5_behind 5 (some .int) { frames := 7, cells := 1, slots := 6, locals := 103 } D ad CNT ca SR (SH ad ca S) [.ref (ad 0 0), .int (x)] (PRm ad ca (rqC x nm) (nI (bhN S (ix x))) S) (PXm [xIO] (rqC x nm)) := by
  have h0 := h
  obtain ⟨⟨hg, hng0, hng⟩, ⟨hm, hnm⟩, ⟨hc, hnc⟩, ⟨ht, htb⟩, ⟨hpa, hpab⟩, hpar, hmk, hcell, hown⟩ := h
  refine CXI.of _ RX5 (by decide +kernel) rfl (Nat.le_of_ble_eq_true rfl) ?_
  intro p9 e9 s9 m9 a9 b9 me9 c9 A9 hB hr hex
  have loop : ∀ (i : Nat), i < nm → ix x = i → rqC x nm = 0 → ∀ (n j a : Nat), (clay S i).length - j < n → j ≤ (clay S i).length → a = cntB (fun j => cBeh S i ((clay S i).getD j 0)) j → G p9 l e9 { frames := 7, cells := 1, slots := 6, locals := 103 } s9 m9 a9 b9 me9 c9 D ad A9 5 (vx_MQ b9 (va_Qi (PRm ad ca (rqC x nm) (nI (bhN S (ix x))) S) (fun E' t => WW D ad CNT A9 E' t.heap) A9) (vx_X (S := Unit) (fun _ => True) (fun X _ t => (PXm [xIO] (rqC x nm)) X ∧ WW D ad CNT A9 (SH ad ca S) t.heap) A9) a9 s9 1 6 A9) 1 6 CNT (SH ad ca (S)) 17 [(0, .ref (ad 0 0)), (1, .int (x)), (2, .ref (ad 6 i)), (3, .int (nI a)), (4, .int (nI j))] [] := by
    intro i hi ei e0 n
    have hL := hmk i hi
    have hlen := hL.2.1
    induction n with
    | zero => intro j a h1; omega
    | succ n ih =>
      intro j a h1 h2 ha
      refine g_iload hB 4 dX5_behind_17 rfl ?_
      refine g_aload_n hB 2 dX5_behind_19 rfl rfl ?_
      refine g_get (ci := 2) (T := TX2) (N := 6) hB in_X2 rfl 6 i 3 (show i < 12 by first | assumption | omega) (by decide) rfl tw_fl_X5_262 rfl dX5_behind_20 ?_
      refine g_top (nI ((clay S i).length)) (hL.1) ?_
      refine n_icmp_ge hB j ((clay S i).length) 45 dX5_behind_23 (by decide) (by omega) (by omega) (fun c_23 => ?_) (fun c_23 => ?_)
      · have hk : j = (clay S i).length := by omega
        subst hk
        refine g_iload_n hB 3 dX5_behind_45 rfl rfl ?_
        exact g_ixret hB hr rfl (Nat.le_of_ble_eq_true rfl) (Nat.le_of_ble_eq_true rfl) (⟨e0, by rw [ei, ha]; rfl, rfl⟩) dX5_behind_46
      · refine g_aload_n hB 0 dX5_behind_26 rfl rfl ?_
        refine g_aload_n hB 2 dX5_behind_27 rfl rfl ?_
        refine g_iload hB 4 dX5_behind_28 rfl ?_
        refine g_callVI hB (c_X5_isBehindIn _ i (by omega) _ hL j c_23) k_X5_265 rfl yk_X5_isBehindIn ⟨Nat.le_of_ble_eq_true rfl, Nat.le_of_ble_eq_true rfl⟩ ⟨(by decide), _, _, _, rfl, rfl, rfl⟩ rfl (Nat.le_of_ble_eq_true rfl) ⟨Nat.le_of_ble_eq_true rfl, Nat.le_of_ble_eq_true rfl⟩ dX5_behind_30 ?_
        rintro _ _ ⟨rfl, rfl⟩
        refine b_if_eq hB (cBeh S i ((clay S i).getD j 0)) 39 dX5_behind_33 (by decide) (fun c_33 => ?_) (fun c_33 => ?_)
        · refine g_iinc hB (nI (j + 1)) dX5_behind_39 rfl (nI_1 _) (by decide) ?_
          refine g_goto hB 17 dX5_behind_42 (by decide) ?_
          exact g_sub _ rfl (ih (j + 1) _ (by omega) (by omega) (by rw [cntB, ← ha, c_33]; rfl))
        · refine g_iinc hB (nI (a + 1)) dX5_behind_36 rfl (nI_1 _) (by decide) ?_
          refine g_iinc hB (nI (j + 1)) dX5_behind_39 rfl (nI_1 _) (by decide) ?_
          refine g_goto hB 17 dX5_behind_42 (by decide) ?_
          exact g_sub _ rfl (ih (j + 1) _ (by omega) (by omega) (by rw [cntB, ← ha, c_33]; rfl))
  refine g_aload_n hB 0 dX5_behind_0 rfl rfl ?_
  refine g_iload_n hB 1 dX5_behind_1 rfl rfl ?_
  refine g_callXVV hB hex (c_X5_requireMachine hl _ x nm hm hnm) k_X5_136 rfl yk_X5_requireMachine ⟨Nat.le_of_ble_eq_true rfl, Nat.le_of_ble_eq_true rfl⟩ ⟨(by decide), _, _, _, rfl, rfl, rfl⟩ rfl (Nat.le_of_ble_eq_true rfl) ⟨Nat.le_of_ble_eq_true rfl, Nat.le_of_ble_eq_true rfl⟩ dX5_behind_2 ⟨Nat.le_of_ble_eq_true rfl, Nat.le_of_ble_eq_true rfl⟩ (fun X hX => px1 hX.1 (by simp only [rqC, hX.2, cond_true, cond_false, decide_true, decide_false, Bool.and_true, Bool.true_and, Bool.and_false, Bool.false_and, Bool.or_true, Bool.true_or, Bool.or_false, Bool.false_or, Bool.not_true, Bool.not_false, not_true_eq_false, not_false_eq_true, ne_eq, Option.isSome])) ?_
  rintro _ ⟨q_2, rfl⟩
  obtain ⟨i, hi, rfl⟩ := rgB_t q_2
  have ii : ix (nI i) = i := ix_nI (by omega)
  refine g_aload_n hB 0 dX5_behind_5 rfl rfl ?_
  refine g_get (ci := 5) (T := TX5) (N := 16) hB in_X5 rfl 0 0 6 (by decide) (by decide) rfl tw_fl_X5_31 rfl dX5_behind_6 ?_
  refine g_iload_n hB 1 dX5_behind_9 rfl rfl ?_
  refine g_aald hB 3 0 i 2 (n := 12) (by decide) rfl rfl (by first | assumption | omega) (Nat.le_of_ble_eq_true rfl) rfl dX5_behind_10 ?_
  refine g_astore_n hB 2 dX5_behind_11 rfl (by decide) ?_
  refine g_iconst hB (nI 0) dX5_behind_12 rfl ?_
  refine g_istore_n hB 3 dX5_behind_13 rfl (by decide) ?_
  refine g_iconst hB (nI 0) dX5_behind_14 rfl ?_
  refine g_istore hB 4 dX5_behind_15 (by decide) ?_
  exact g_sub _ rfl (loop i hi ii (by simp only [rqC, q_2, cond_true, cond_false, decide_true, decide_false, Bool.and_true, Bool.true_and, Bool.and_false, Bool.false_and, Bool.or_true, Bool.true_or, Bool.or_false, Bool.false_or, Bool.not_true, Bool.not_false, not_true_eq_false, not_false_eq_true, ne_eq, Option.isSome]) ((clay S i).length + 1) 0 0 (by omega) (by omega) rfl)
theorem c_X5_spread (hl : l.stackTraces = false) (S : Mem) (ng nm nc t pa : Nat) (h : KI S ng nm nc t pa) (x : Int32) : CXI l yX5_spread cX5_spread 5 (some .int) { frames := 7, cells := 1, slots := 6, locals := 103 } D ad CNT ca SR (SH ad ca S) [.ref (ad 0 0), .int (x)] (PRm ad ca (rqC x nc) (nI (sdN S nm (ix x))) S) (PXm [xIO] (rqC x nc)) := by
  have h0 := h
  obtain ⟨⟨hg, hng0, hng⟩, ⟨hm, hnm⟩, ⟨hc, hnc⟩, ⟨ht, htb⟩, ⟨hpa, hpab⟩, hpar, hmk, hcell, hown⟩ := h
  refine CXI.of _ RX5 (by decide +kernel) rfl (Nat.le_of_ble_eq_true rfl) ?_
  intro p9 e9 s9 m9 a9 b9 me9 c9 A9 hB hr hex
  have loop : ∀ (d q : Nat), d < nc → q < 132 → S 9 d 1 = nI q → ix x = d → rqC x nc = 0 → x = nI d → ∀ (n i a : Nat), nm - i < n → i ≤ nm → a = cntB (fun i => decide (S 8 i q = nI d)) i → G p9 l e9 { frames := 7, cells := 1, slots := 6, locals := 103 } s9 m9 a9 b9 me9 c9 D ad A9 5 (vx_MQ b9 (va_Qi (PRm ad ca (rqC x nc) (nI (sdN S nm (ix x))) S) (fun E' t => WW D ad CNT A9 E' t.heap) A9) (vx_X (S := Unit) (fun _ => True) (fun X _ t => (PXm [xIO] (rqC x nc)) X ∧ WW D ad CNT A9 (SH ad ca S) t.heap) A9) a9 s9 1 6 A9) 1 6 CNT (SH ad ca (S)) 20 [(0, .ref (ad 0 0)), (1, .int (x)), (2, .int (nI q)), (3, .int (nI a)), (4, .int (nI i))] [] := by
    intro d q hd hq eq_ ei e0 ex n
    have hiq : ix (S 9 d 1) = q := by rw [eq_]; exact ix_nI (by omega)
    induction n with
    | zero => intro i a h1; omega
    | succ n ih =>
      intro i a h1 h2 ha
      refine g_iload hB 4 dX5_spread_20 rfl ?_
      refine g_aload_n hB 0 dX5_spread_22 rfl rfl ?_
      refine g_get (ci := 5) (T := TX5) (N := 16) hB in_X5 rfl 0 0 7 (by decide) (by decide) rfl tw_fl_X5_127 rfl dX5_spread_23 ?_
      refine g_top (nI nm) (hm) ?_
      refine n_icmp_ge hB i nm 56 dX5_spread_26 (by decide) (by omega) (by omega) (fun c_26 => ?_) (fun c_26 => ?_)
      · have hk : i = nm := by omega
        subst hk
        refine g_iload_n hB 3 dX5_spread_56 rfl rfl ?_
        exact g_ixret hB hr rfl (Nat.le_of_ble_eq_true rfl) (Nat.le_of_ble_eq_true rfl) (⟨e0, by unfold sdN; rw [ei, hiq, ha], rfl⟩) dX5_spread_57
      · refine g_aload_n hB 0 dX5_spread_29 rfl rfl ?_
        refine g_get (ci := 5) (T := TX5) (N := 16) hB in_X5 rfl 0 0 6 (by decide) (by decide) rfl tw_fl_X5_31 rfl dX5_spread_30 ?_
        refine g_iload hB 4 dX5_spread_33 rfl ?_
        refine g_aald hB 3 0 i 2 (n := 12) (by decide) rfl rfl (by first | assumption | omega) (Nat.le_of_ble_eq_true rfl) rfl dX5_spread_35 ?_
        refine g_get (ci := 2) (T := TX2) (N := 6) hB in_X2 rfl 6 i 4 (show i < 12 by first | assumption | omega) (by decide) rfl tw_fl_X5_239 rfl dX5_spread_36 ?_
        refine g_iload_n hB 2 dX5_spread_39 rfl rfl ?_
        refine g_callVI hB (c_X9_get8 _ i (by omega) q hq) k_X5_223 rfl yk_X9_get ⟨Nat.le_of_ble_eq_true rfl, Nat.le_of_ble_eq_true rfl⟩ ⟨(show i < 12 by first | assumption | omega), _, _, _, rfl, rfl, rfl⟩ rfl (Nat.le_of_ble_eq_true rfl) ⟨Nat.le_of_ble_eq_true rfl, Nat.le_of_ble_eq_true rfl⟩ dX5_spread_40 ?_
        rintro _ _ ⟨rfl, rfl⟩
        refine g_iload_n hB 1 dX5_spread_43 rfl rfl ?_
        refine g_icmp_ne hB 50 dX5_spread_44 (by decide) (fun c_44 => ?_) (fun c_44 => ?_)
        · have e : decide (S 8 i q = nI d) = false := by rw [← ex]; exact decide_eq_false c_44
          refine g_iinc hB (nI (i + 1)) dX5_spread_50 rfl (nI_1 _) (by decide) ?_
          refine g_goto hB 20 dX5_spread_53 (by decide) ?_
          exact g_sub _ rfl (ih (i + 1) _ (by omega) (by omega) (by rw [cntB, ← ha, e]; rfl))
        · have e : decide (S 8 i q = nI d) = true := by rw [← ex]; exact decide_eq_true c_44
          refine g_iinc hB (nI (a + 1)) dX5_spread_47 rfl (nI_1 _) (by decide) ?_
          refine g_iinc hB (nI (i + 1)) dX5_spread_50 rfl (nI_1 _) (by decide) ?_
          refine g_goto hB 20 dX5_spread_53 (by decide) ?_
          exact g_sub _ rfl (ih (i + 1) _ (by omega) (by omega) (by rw [cntB, ← ha, e]; rfl))
  refine g_aload_n hB 0 dX5_spread_0 rfl rfl ?_
  refine g_iload_n hB 1 dX5_spread_1 rfl rfl ?_
  refine g_callXVV hB hex (c_X5_requireChange hl _ x nc hc hnc) k_X5_179 rfl yk_X5_requireChange ⟨Nat.le_of_ble_eq_true rfl, Nat.le_of_ble_eq_true rfl⟩ ⟨(by decide), _, _, _, rfl, rfl, rfl⟩ rfl (Nat.le_of_ble_eq_true rfl) ⟨Nat.le_of_ble_eq_true rfl, Nat.le_of_ble_eq_true rfl⟩ dX5_spread_2 ⟨Nat.le_of_ble_eq_true rfl, Nat.le_of_ble_eq_true rfl⟩ (fun X hX => px1 hX.1 (by simp only [rqC, hX.2, cond_true, cond_false, decide_true, decide_false, Bool.and_true, Bool.true_and, Bool.and_false, Bool.false_and, Bool.or_true, Bool.true_or, Bool.or_false, Bool.false_or, Bool.not_true, Bool.not_false, not_true_eq_false, not_false_eq_true, ne_eq, Option.isSome])) ?_
  rintro _ ⟨q_2, rfl⟩
  obtain ⟨d, hd, rfl⟩ := rgB_t q_2
  have id : ix (nI d) = d := ix_nI (by omega)
  obtain ⟨q, hq, eq_⟩ := hcell d hd
  refine g_aload_n hB 0 dX5_spread_5 rfl rfl ?_
  refine g_get (ci := 5) (T := TX5) (N := 16) hB in_X5 rfl 0 0 8 (by decide) (by decide) rfl tw_fl_X5_37 rfl dX5_spread_6 ?_
  refine g_iload_n hB 1 dX5_spread_9 rfl rfl ?_
  refine g_aald hB 4 0 d 3 (n := 40) (by decide) rfl rfl (by first | assumption | omega) (Nat.le_of_ble_eq_true rfl) rfl dX5_spread_10 ?_
  refine g_get (ci := 0) (T := TX0) (N := 8) hB in_X0 rfl 9 d 1 (show d < 40 by first | assumption | omega) (by decide) rfl tw_fl_X5_272 rfl dX5_spread_11 ?_
  refine g_top (nI (q)) (eq_) ?_
  refine g_istore_n hB 2 dX5_spread_14 rfl (by decide) ?_
  refine g_iconst hB (nI 0) dX5_spread_15 rfl ?_
  refine g_istore_n hB 3 dX5_spread_16 rfl (by decide) ?_
  refine g_iconst hB (nI 0) dX5_spread_17 rfl ?_
  refine g_istore hB 4 dX5_spread_18 (by decide) ?_
  exact g_sub _ rfl (loop d q hd hq eq_ id (by simp only [rqC, q_2, cond_true, cond_false, decide_true, decide_false, Bool.and_true, Bool.true_and, Bool.and_false, Bool.false_and, Bool.or_true, Bool.true_or, Bool.or_false, Bool.false_or, Bool.not_true, Bool.not_false, not_true_eq_false, not_false_eq_true, ne_eq, Option.isSome]) rfl (nm + 1) 0 0 (by omega) (by omega) rfl)
end X9
