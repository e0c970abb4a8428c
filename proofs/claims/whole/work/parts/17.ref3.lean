/-! the reference: steps of a machine -/
section M3
variable {l : Launch} {D : va_G} {ad : Nat → Nat → Nat} {ca : Nat → ClassId} {SR : List (String × Nat × String)}
theorem lay_s10 {par : Nat → Int32} {ng g i : Nat} (hp : PAR par ng) (hng : ng ≤ 10) (hg : g < ng) (hi : i < (lay par g).length) : (lay par g).getD i 0 ≤ 10 := by
  cases i with
  | zero => exact Nat.le_refl _
  | succ i => exact Nat.le_of_lt (Nat.lt_of_lt_of_le (pth_in hp hng hg (Nat.lt_of_succ_lt_succ hi)) hng)
theorem lay_len {par : Nat → Int32} {ng g : Nat} (hp : PAR par ng) (hng : ng ≤ 10) (hg : g < ng) : 2 ≤ (lay par g).length ∧ (lay par g).length ≤ 11 := by
  have h := pth_len hp hng (g + 1) g (Nat.lt_succ_self g) hg
  show 2 ≤ (pth par g).length + 1 ∧ (pth par g).length + 1 ≤ 11
  omega
theorem c_X6_takes (S : Mem) (m g ng nc : Nat) (hp : PAR (S 18 2) ng) (hng : ng ≤ 10) (hg : g < ng) (hm : m < 12) (hgm : S 18 3 m = nI g) (h : S 17 0 11 = nI nc) (hn : nc ≤ 40) : CI l yX6_takes cX6_takes 5 (some .boolean) { frames := 3, cells := 0, slots := 0, locals := 73 } D ad CNT ca SR (SH ad ca S) [.ref (ad 17 0), .int (nI m)] (PR ad ca (bI (decide (mFar S nc m g ≠ 0))) (mTake S nc m g)) := by
  have hL := lay_len hp hng hg
  refine CI.of _ RX6 (by decide +kernel) rfl (Nat.le_of_ble_eq_true rfl) ?_
  intro p9 e9 s9 m9 a9 b9 me9 c9 A9 hB hr hnm9
  have last : ∀ (i : Nat), i < (lay (S 18 2) g).length → mFar S nc m g = i + 1 → ∀ (n k : Nat), 6 - k < n → k ≤ 6 → G p9 l e9 { frames := 3, cells := 0, slots := 0, locals := 73 } s9 m9 a9 b9 me9 c9 D ad A9 5 (MQ b9 (va_Qi (PR ad ca (bI (decide (mFar S nc m g ≠ 0))) (mTake S nc m g)) (fun E' t => WW D ad CNT A9 E' t.heap) A9) a9 s9 0 0 A9) 0 0 CNT (SH ad ca (uS S 18 5 (ovl (S 18 5) (6 * (11 * m + (lay (S 18 2) g).getD i 0)) k (fun k => oI (mTop S nc m ((lay (S 18 2) g).getD i 0) k))))) 29 [(0, .ref (ad 17 0)), (1, .int (nI m)), (2, .int (nI i)), (3, .int (nI k))] [] := by
    intro i hi hfar n
    have hs := lay_s10 hp hng hg hi
    obtain ⟨s, hsd⟩ : ∃ s, s = (lay (S 18 2) g).getD i 0 := ⟨_, rfl⟩
    rw [← hsd] at hs ⊢
    induction n with
    | zero => intro k h1 h2; omega
    | succ n ih =>
      intro k h1 h2
      refine g_iload_n hB 3 dX6_takes_29 rfl rfl ?_
      refine g_bipush hB (nI 6) dX6_takes_30 rfl ?_
      refine n_icmp_ge hB k 6 75 dX6_takes_32 (by decide) (by omega) (by omega) (fun c_32 => ?_) (fun c_32 => ?_)
      · have hk : k = 6 := by omega
        subst hk
        refine g_iload_n hB 2 dX6_takes_75 rfl rfl ?_
        refine n_if_lt (tgt := 83) hB _ dX6_takes_76 (by decide) (by omega) ?_
        refine g_iconst hB (nI 1) dX6_takes_79 rfl ?_
        refine g_goto hB 84 dX6_takes_80 (by decide) ?_
        exact g_iret hB hr rfl (Nat.le_of_ble_eq_true rfl) (Nat.le_of_ble_eq_true rfl) (⟨by rw [hfar]; rfl, by rw [mTake, hfar, hsd]; rfl⟩) dX6_takes_84
      · refine g_iload_n hB 2 dX6_takes_35 rfl rfl ?_
        refine n_if_lt (tgt := 75) hB _ dX6_takes_36 (by decide) (by omega) ?_
        refine g_aload_n hB 0 dX6_takes_39 rfl rfl ?_
        refine g_iload_n hB 1 dX6_takes_40 rfl rfl ?_
        refine g_iload_n hB 2 dX6_takes_41 rfl rfl ?_
        refine g_callVI hB (c_X6_slot _ m g ng i hp hng hg hm hgm hi) k_X6_99 rfl yk_X6_slot ⟨Nat.le_of_ble_eq_true rfl, Nat.le_of_ble_eq_true rfl⟩ ⟨(by decide), _, _, _, rfl, rfl, rfl⟩ rfl (Nat.le_of_ble_eq_true rfl) ⟨Nat.le_of_ble_eq_true rfl, Nat.le_of_ble_eq_true rfl⟩ dX6_takes_42 ?_
        rintro _ _ ⟨rfl, rfl⟩
        rw [show (lay (uS S 18 5 (ovl (S 18 5) (6 * (11 * m + s)) k (fun k => oI (mTop S nc m s k))) 18 2) g).getD i 0 = s from hsd.symm]
        refine g_istore hB 4 dX6_takes_45 (by decide) ?_
        refine g_aload_n hB 0 dX6_takes_47 rfl rfl ?_
        refine g_get (ci := 6) (T := TX6) (N := 26) hB in_X6 rfl 17 0 10 (by decide) (by decide) rfl tw_fl_X6_32 rfl dX6_takes_48 ?_
        refine g_aload_n hB 0 dX6_takes_51 rfl rfl ?_
        refine g_iload_n hB 1 dX6_takes_52 rfl rfl ?_
        refine g_iload hB 4 dX6_takes_53 rfl ?_
        refine g_callVI hB (c_X6_cells _ _ _) k_X6_102 rfl yk_X6_cells ⟨Nat.le_of_ble_eq_true rfl, Nat.le_of_ble_eq_true rfl⟩ ⟨(by decide), _, _, _, rfl, rfl, rfl⟩ rfl (Nat.le_of_ble_eq_true rfl) ⟨Nat.le_of_ble_eq_true rfl, Nat.le_of_ble_eq_true rfl⟩ dX6_takes_55 ?_
        rintro _ _ ⟨rfl, rfl⟩
        refine g_iload_n hB 3 dX6_takes_58 rfl rfl ?_
        refine g_iadd hB dX6_takes_59 ?_
        refine g_top (nI (6 * (11 * m + s) + k)) (nI_add _ _) ?_
        refine g_aload_n hB 0 dX6_takes_60 rfl rfl ?_
        refine g_iload_n hB 1 dX6_takes_61 rfl rfl ?_
        refine g_iload hB 4 dX6_takes_62 rfl ?_
        refine g_iload_n hB 3 dX6_takes_64 rfl rfl ?_
        refine g_callVI hB (c_X6_topOf _ m s k nc h hn hm hs (by omega)) k_X6_105 rfl yk_X6_topOf ⟨Nat.le_of_ble_eq_true rfl, Nat.le_of_ble_eq_true rfl⟩ ⟨(by decide), _, _, _, rfl, rfl, rfl⟩ rfl (Nat.le_of_ble_eq_true rfl) ⟨Nat.le_of_ble_eq_true rfl, Nat.le_of_ble_eq_true rfl⟩ dX6_takes_65 ?_
        rintro _ _ ⟨rfl, rfl⟩
        refine s_iast hB 18 5 (6 * (11 * m + s) + k) (n := 792) (by decide) (fun _ => rfl) (by first | assumption | omega) (Nat.le_of_ble_eq_true rfl) dX6_takes_68 ?_
        refine g_iinc hB (nI (k + 1)) dX6_takes_69 rfl (nI_1 _) (by decide) ?_
        refine g_goto hB 29 dX6_takes_72 (by decide) ?_
        refine s_eq _ ?_ (g_sub _ rfl (ih (k + 1) (by omega) (by omega)))
        rw [uM_uS]
        exact congrArg (uS S 18 5) ovl_s
  have loop : ∀ (n : Nat), n ≤ (lay (S 18 2) g).length → mFar S nc m g = farN (fun i => mLag S nc m ((lay (S 18 2) g).getD i 0)) n → G p9 l e9 { frames := 3, cells := 0, slots := 0, locals := 73 } s9 m9 a9 b9 me9 c9 D ad A9 5 (MQ b9 (va_Qi (PR ad ca (bI (decide (mFar S nc m g ≠ 0))) (mTake S nc m g)) (fun E' t => WW D ad CNT A9 E' t.heap) A9) a9 s9 0 0 A9) 0 0 CNT (SH ad ca (S)) 8 [(0, .ref (ad 17 0)), (1, .int (nI m)), (2, .int (lI n))] [] := by
    intro n
    induction n with
    | zero =>
      intro h1 h2
      have h3 : mFar S nc m g = 0 := h2
      refine g_iload_n hB 2 dX6_takes_8 rfl rfl ?_
      refine g_if_lt hB 27 dX6_takes_9 (by decide) (fun c_9 => ?_) (fun c_9 => ?_)
      · refine g_iconst hB (nI 0) dX6_takes_27 rfl ?_
        refine g_istore_n hB 3 dX6_takes_28 rfl (by decide) ?_
        refine g_iload_n hB 3 dX6_takes_29 rfl rfl ?_
        refine g_bipush hB (nI 6) dX6_takes_30 rfl ?_
        refine n_icmp_ge hB 0 6 75 dX6_takes_32 (by decide) (by omega) (by omega) (fun c_32 => ?_) (fun c_32 => ?_)
        · exact absurd c_32 (by omega)
        · refine g_iload_n hB 2 dX6_takes_35 rfl rfl ?_
          refine g_if_lt hB 75 dX6_takes_36 (by decide) (fun c_36 => ?_) (fun c_36 => ?_)
          · refine g_iload_n hB 2 dX6_takes_75 rfl rfl ?_
            refine g_if_lt hB 83 dX6_takes_76 (by decide) (fun c_76 => ?_) (fun c_76 => ?_)
            · refine g_iconst hB (nI 0) dX6_takes_83 rfl ?_
              exact g_iret hB hr rfl (Nat.le_of_ble_eq_true rfl) (Nat.le_of_ble_eq_true rfl) (⟨by rw [h3]; rfl, by rw [mTake, h3]⟩) dX6_takes_84
            · exact absurd (by decide) c_76
          · exact absurd (by decide) c_36
      · exact absurd (by decide) c_9
    | succ n ih =>
      intro h1 h2
      refine g_iload_n hB 2 dX6_takes_8 rfl rfl ?_
      refine n_if_lt (tgt := 27) hB _ dX6_takes_9 (by decide) (by omega) ?_
      refine g_aload_n hB 0 dX6_takes_12 rfl rfl ?_
      refine g_iload_n hB 1 dX6_takes_13 rfl rfl ?_
      refine g_iload_n hB 2 dX6_takes_14 rfl rfl ?_
      refine g_callVI hB (c_X6_lags S m g ng n nc hp hng hg hm hgm (by omega) h hn) k_X6_127 rfl yk_X6_lags ⟨Nat.le_of_ble_eq_true rfl, Nat.le_of_ble_eq_true rfl⟩ ⟨(by decide), _, _, _, rfl, rfl, rfl⟩ rfl (Nat.le_of_ble_eq_true rfl) ⟨Nat.le_of_ble_eq_true rfl, Nat.le_of_ble_eq_true rfl⟩ dX6_takes_15 ?_
      rintro _ _ ⟨rfl, rfl⟩
      refine b_if_ne hB (mLag S nc m ((lay (S 18 2) g).getD n 0)) 27 dX6_takes_18 (by decide) (fun c_18 => ?_) (fun c_18 => ?_)
      · have h3 : mFar S nc m g = n + 1 := by rw [h2, farN]; simp only [c_18]; rfl
        refine g_iconst hB (nI 0) dX6_takes_27 rfl ?_
        refine g_istore_n hB 3 dX6_takes_28 rfl (by decide) ?_
        refine s_eq _ ?_ (g_sub _ rfl (last n (by omega) h3 7 0 (by omega) (by omega)))
        rw [ovl_0, uS_self]
      · have h3 : mFar S nc m g = farN (fun i => mLag S nc m ((lay (S 18 2) g).getD i 0)) n := by rw [h2, farN]; simp only [c_18]; rfl
        refine g_iinc hB ((lI n)) dX6_takes_21 rfl (lI_pred n) (by decide) ?_
        refine g_goto hB 8 dX6_takes_24 (by decide) ?_
        exact g_sub _ rfl (ih (by omega) h3)
  refine g_aload_n hB 0 dX6_takes_0 rfl rfl ?_
  refine g_iload_n hB 1 dX6_takes_1 rfl rfl ?_
  refine g_callVI hB (c_X6_layers S m g ng hp hng hg hm hgm) k_X6_95 rfl yk_X6_layers ⟨Nat.le_of_ble_eq_true rfl, Nat.le_of_ble_eq_true rfl⟩ ⟨(by decide), _, _, _, rfl, rfl, rfl⟩ rfl (Nat.le_of_ble_eq_true rfl) ⟨Nat.le_of_ble_eq_true rfl, Nat.le_of_ble_eq_true rfl⟩ dX6_takes_2 ?_
  rintro _ _ ⟨rfl, rfl⟩
  refine g_iconst hB (nI 1) dX6_takes_5 rfl ?_
  refine g_isub hB dX6_takes_6 ?_
  refine g_top ((lI (lay (S 18 2) g).length)) (lI_sub _) ?_
  refine g_istore_n hB 2 dX6_takes_7 rfl (by decide) ?_
  exact g_sub _ rfl (loop _ (Nat.le_refl _) rfl)
theorem c_X6_goesBack (S : Mem) (m g ng nc f : Nat) (hp : PAR (S 18 2) ng) (hng : ng ≤ 10) (hg : g < ng) (hm : m < 12) (hgm : S 18 3 m = nI g) (h : S 17 0 11 = nI nc) (hn : nc ≤ 40) (hT : TK S) (hf : fstN (fun i => mNhL S m ((lay (S 18 2) g).getD i 0)) (lay (S 18 2) g).length = some f) : CV l yX6_goesBack cX6_goesBack 7 none { frames := 2, cells := 0, slots := 0, locals := 48 } D ad CNT ca SR (SH ad ca S) [.ref (ad 17 0), .int (nI m)] (PM ad ca (mBackAt S nc m ((lay (S 18 2) g).getD f 0))) := by
  have hL := lay_len hp hng hg
  obtain ⟨hf1, hf2, hf3⟩ := fstN_some.mp hf
  refine CV.of _ RX6 (by decide +kernel) rfl (Nat.le_of_ble_eq_true rfl) ?_
  intro p9 e9 s9 m9 a9 b9 me9 c9 A9 hB hr hnm9
  have inner : ∀ (i : Nat), i < (lay (S 18 2) g).length → ∀ s, s = (lay (S 18 2) g).getD i 0 → s ≤ 10 → G p9 l e9 { frames := 2, cells := 0, slots := 0, locals := 48 } s9 m9 a9 b9 me9 c9 D ad A9 7 (MQ b9 (va_Qv (PM ad ca (mBackAt S nc m ((lay (S 18 2) g).getD f 0))) (fun E' t => WW D ad CNT A9 E' t.heap) A9) a9 s9 0 0 A9) 0 0 CNT (SH ad ca (mBackAt S nc m s)) 89 [(0, .ref (ad 17 0)), (1, .int (nI m)), (2, .int (bI (!mNhL S m s))), (3, .int (nI i))] [] → ∀ (n k : Nat) (x : Int32), 6 - k < n → k ≤ 6 → x = bI (!anyB (fun k => nhB S (S 18 5 (6 * (11 * m + s) + k))) k) → G p9 l e9 { frames := 2, cells := 0, slots := 0, locals := 48 } s9 m9 a9 b9 me9 c9 D ad A9 7 (MQ b9 (va_Qv (PM ad ca (mBackAt S nc m ((lay (S 18 2) g).getD f 0))) (fun E' t => WW D ad CNT A9 E' t.heap) A9) a9 s9 0 0 A9) 0 0 CNT (SH ad ca (uS S 18 5 (gbV S nc m s k))) 19 [(0, .ref (ad 17 0)), (1, .int (nI m)), (2, .int (x)), (3, .int (nI i)), (4, .int (nI s)), (5, .int (nI k))] [] := by
    intro i hi s hsd hs hK n
    induction n with
    | zero => intro k x h1 h2; omega
    | succ n ih =>
      intro k x h1 h2 hx
      obtain ⟨b, hb⟩ : ∃ b, b = anyB (fun k => nhB S (S 18 5 (6 * (11 * m + s) + k))) k := ⟨_, rfl⟩
      rw [← hb] at hx
      subst hx
      refine g_iload hB 5 dX6_goesBack_19 rfl ?_
      refine g_bipush hB (nI 6) dX6_goesBack_21 rfl ?_
      refine n_icmp_ge hB k 6 89 dX6_goesBack_23 (by decide) (by omega) (by omega) (fun c_23 => ?_) (fun c_23 => ?_)
      · have hk : k = 6 := by omega
        subst hk
        exact g_sub _ (by rw [hb]; rfl) hK
      · refine g_aload_n hB 0 dX6_goesBack_26 rfl rfl ?_
        refine g_iload_n hB 1 dX6_goesBack_27 rfl rfl ?_
        refine g_iload hB 4 dX6_goesBack_28 rfl ?_
        refine g_callVI hB (c_X6_cells _ _ _) k_X6_102 rfl yk_X6_cells ⟨Nat.le_of_ble_eq_true rfl, Nat.le_of_ble_eq_true rfl⟩ ⟨(by decide), _, _, _, rfl, rfl, rfl⟩ rfl (Nat.le_of_ble_eq_true rfl) ⟨Nat.le_of_ble_eq_true rfl, Nat.le_of_ble_eq_true rfl⟩ dX6_goesBack_30 ?_
        rintro _ _ ⟨rfl, rfl⟩
        refine g_iload hB 5 dX6_goesBack_33 rfl ?_
        refine g_iadd hB dX6_goesBack_35 ?_
        refine g_top (nI (6 * (11 * m + s) + k)) (nI_add _ _) ?_
        refine g_istore hB 6 dX6_goesBack_36 (by decide) ?_
        refine g_aload_n hB 0 dX6_goesBack_38 rfl rfl ?_
        refine g_get (ci := 6) (T := TX6) (N := 26) hB in_X6 rfl 17 0 10 (by decide) (by decide) rfl tw_fl_X6_32 rfl dX6_goesBack_39 ?_
        refine g_iload hB 6 dX6_goesBack_42 rfl ?_
        refine g_iald hB 18 5 (6 * (11 * m + s) + k) (n := 792) (by decide) rfl (by first | assumption | omega) (Nat.le_of_ble_eq_true rfl) dX6_goesBack_44 ?_
        refine g_top ((S 18 5 (6 * (11 * m + s) + k))) (gbV_at) ?_
        refine g_iconst hB (-1) dX6_goesBack_45 rfl ?_
        refine g_icmp_eq hB 83 dX6_goesBack_46 (by decide) (fun c_46 => ?_) (fun c_46 => ?_)
        · have hv : nhB S (S 18 5 (6 * (11 * m + s) + k)) = false := by rw [nhB, c_46]; rfl
          have hq : bI (!b) = bI (!(b || nhB S (S 18 5 (6 * (11 * m + s) + k)))) := by rw [hv, Bool.or_false]
          have hmem := congrArg (uS S 18 5) (gbV_f (nc := nc) hv)
          refine g_iinc hB (nI (k + 1)) dX6_goesBack_83 rfl (nI_1 _) (by decide) ?_
          refine g_goto hB 19 dX6_goesBack_86 (by decide) ?_
          exact s_eq _ hmem (g_sub _ rfl (ih (k + 1) _ (by omega) (by omega) (by rw [anyB, ← hb]; exact hq)))
        · obtain ⟨t, ht, et⟩ := (hT (6 * (11 * m + s) + k) (by omega)).resolve_left c_46
          refine g_aload_n hB 0 dX6_goesBack_49 rfl rfl ?_
          refine g_get (ci := 6) (T := TX6) (N := 26) hB in_X6 rfl 17 0 18 (by decide) (by decide) rfl tw_fl_X6_50 rfl dX6_goesBack_50 ?_
          refine g_aload_n hB 0 dX6_goesBack_53 rfl rfl ?_
          refine g_get (ci := 6) (T := TX6) (N := 26) hB in_X6 rfl 17 0 10 (by decide) (by decide) rfl tw_fl_X6_32 rfl dX6_goesBack_54 ?_
          refine g_iload hB 6 dX6_goesBack_57 rfl ?_
          refine g_iald hB 18 5 (6 * (11 * m + s) + k) (n := 792) (by decide) rfl (by first | assumption | omega) (Nat.le_of_ble_eq_true rfl) dX6_goesBack_59 ?_
          refine g_top (nI (t)) (gbV_at.trans et) ?_
          refine g_iald hB 18 11 t (n := 40) (by decide) rfl (by first | assumption | omega) (Nat.le_of_ble_eq_true rfl) dX6_goesBack_60 ?_
          refine g_iconst hB (nI 1) dX6_goesBack_61 rfl ?_
          refine g_icmp_eq hB 83 dX6_goesBack_62 (by decide) (fun c_62 => ?_) (fun c_62 => ?_)
          · have hv : nhB S (S 18 5 (6 * (11 * m + s) + k)) = false := by rw [nhB, et, nI_clamp (by omega), decide_eq_false (p := S 18 11 t ≠ nI 1) (fun z => z c_62), Bool.and_false]
            have hq : bI (!b) = bI (!(b || nhB S (S 18 5 (6 * (11 * m + s) + k)))) := by rw [hv, Bool.or_false]
            have hmem := congrArg (uS S 18 5) (gbV_f (nc := nc) hv)
            refine g_iinc hB (nI (k + 1)) dX6_goesBack_83 rfl (nI_1 _) (by decide) ?_
            refine g_goto hB 19 dX6_goesBack_86 (by decide) ?_
            exact s_eq _ hmem (g_sub _ rfl (ih (k + 1) _ (by omega) (by omega) (by rw [anyB, ← hb]; exact hq)))
          · have hv : nhB S (S 18 5 (6 * (11 * m + s) + k)) = true := by rw [nhB, et, nI_clamp (by omega), decide_eq_true (p := S 18 11 t ≠ nI 1) c_62, decide_eq_true (m1_ne (by omega))]; rfl
            have hq : nI 0 = bI (!(b || nhB S (S 18 5 (6 * (11 * m + s) + k)))) := by rw [hv, Bool.or_true]; rfl
            have hmem : uM (uS S 18 5 (gbV S nc m s k)) 18 5 (6 * (11 * m + s) + k) (oI (mTop S nc m s k)) = uS S 18 5 (gbV S nc m s (k + 1)) := by rw [uM_uS]; exact congrArg (uS S 18 5) (gbV_t hv)
            refine g_aload_n hB 0 dX6_goesBack_65 rfl rfl ?_
            refine g_get (ci := 6) (T := TX6) (N := 26) hB in_X6 rfl 17 0 10 (by decide) (by decide) rfl tw_fl_X6_32 rfl dX6_goesBack_66 ?_
            refine g_iload hB 6 dX6_goesBack_69 rfl ?_
            refine g_aload_n hB 0 dX6_goesBack_71 rfl rfl ?_
            refine g_iload_n hB 1 dX6_goesBack_72 rfl rfl ?_
            refine g_iload hB 4 dX6_goesBack_73 rfl ?_
            refine g_iload hB 5 dX6_goesBack_75 rfl ?_
            refine g_callVI hB (c_X6_topOf _ m s k nc h hn hm hs (by omega)) k_X6_105 rfl yk_X6_topOf ⟨Nat.le_of_ble_eq_true rfl, Nat.le_of_ble_eq_true rfl⟩ ⟨(by decide), _, _, _, rfl, rfl, rfl⟩ rfl (Nat.le_of_ble_eq_true rfl) ⟨Nat.le_of_ble_eq_true rfl, Nat.le_of_ble_eq_true rfl⟩ dX6_goesBack_77 ?_
            rintro _ _ ⟨rfl, rfl⟩
            refine s_iast hB 18 5 (6 * (11 * m + s) + k) (n := 792) (by decide) (fun _ => rfl) (by first | assumption | omega) (Nat.le_of_ble_eq_true rfl) dX6_goesBack_80 ?_
            refine g_iconst hB (nI 0) dX6_goesBack_81 rfl ?_
            refine g_istore_n hB 2 dX6_goesBack_82 rfl (by decide) ?_
            refine g_iinc hB (nI (k + 1)) dX6_goesBack_83 rfl (nI_1 _) (by decide) ?_
            refine g_goto hB 19 dX6_goesBack_86 (by decide) ?_
            exact s_eq _ hmem (g_sub _ rfl (ih (k + 1) _ (by omega) (by omega) (by rw [anyB, ← hb]; exact hq)))
  have loop : ∀ (n i : Nat), f - i < n → i ≤ f → G p9 l e9 { frames := 2, cells := 0, slots := 0, locals := 48 } s9 m9 a9 b9 me9 c9 D ad A9 7 (MQ b9 (va_Qv (PM ad ca (mBackAt S nc m ((lay (S 18 2) g).getD f 0))) (fun E' t => WW D ad CNT A9 E' t.heap) A9) a9 s9 0 0 A9) 0 0 CNT (SH ad ca (S)) 4 [(0, .ref (ad 17 0)), (1, .int (nI m)), (2, .int (bI true)), (3, .int (nI i))] [] := by
    intro n
    induction n with
    | zero => intro i h1 h2; omega
    | succ n ih =>
      intro i h1 h2
      have hs := lay_s10 hp hng hg (show i < (lay (S 18 2) g).length by omega)
      obtain ⟨s, hsd⟩ : ∃ s, s = (lay (S 18 2) g).getD i 0 := ⟨_, rfl⟩
      rw [← hsd] at hs
      have hK : G p9 l e9 { frames := 2, cells := 0, slots := 0, locals := 48 } s9 m9 a9 b9 me9 c9 D ad A9 7 (MQ b9 (va_Qv (PM ad ca (mBackAt S nc m ((lay (S 18 2) g).getD f 0))) (fun E' t => WW D ad CNT A9 E' t.heap) A9) a9 s9 0 0 A9) 0 0 CNT (SH ad ca (mBackAt S nc m s)) 89 [(0, .ref (ad 17 0)), (1, .int (nI m)), (2, .int (bI (!mNhL S m s))), (3, .int (nI i))] [] := by
        rcases Nat.lt_or_ge i f with q | q
        · have h0 : mNhL S m s = false := by have := hf3 i q; rw [hsd]; exact this
          rw [h0, mBack_no h0]
          refine g_iinc hB (nI (i + 1)) dX6_goesBack_89 rfl (nI_1 _) (by decide) ?_
          refine g_goto hB 4 dX6_goesBack_92 (by decide) ?_
          exact g_sub _ rfl (ih (i + 1) (by omega) (by omega))
        · have hi : i = f := by omega
          subst hi
          have h0 : mNhL S m s = true := by rw [hsd]; exact hf2
          rw [h0]
          refine g_iinc hB (nI (i + 1)) dX6_goesBack_89 rfl (nI_1 _) (by decide) ?_
          refine g_goto hB 4 dX6_goesBack_92 (by decide) ?_
          refine g_iload_n hB 2 dX6_goesBack_4 rfl rfl ?_
          refine b_if_eq hB (!true) 95 dX6_goesBack_5 (by decide) (fun c_5 => ?_) (fun c_5 => ?_)
          · exact g_vret hB hr (Nat.le_of_ble_eq_true rfl) (Nat.le_of_ble_eq_true rfl) (by rw [← hsd]; rfl) dX6_goesBack_95
          · cases c_5
      have hin := inner i (by omega) s hsd hs hK 7 0 (bI true) (by omega) (by omega) rfl
      refine g_iload_n hB 2 dX6_goesBack_4 rfl rfl ?_
      refine b_if_eq hB (true) 95 dX6_goesBack_5 (by decide) (fun c_5 => ?_) (fun c_5 => ?_)
      · cases c_5
      · refine g_aload_n hB 0 dX6_goesBack_8 rfl rfl ?_
        refine g_iload_n hB 1 dX6_goesBack_9 rfl rfl ?_
        refine g_iload_n hB 3 dX6_goesBack_10 rfl rfl ?_
        refine g_callVI hB (c_X6_slot _ m g ng i hp hng hg hm hgm (by omega)) k_X6_99 rfl yk_X6_slot ⟨Nat.le_of_ble_eq_true rfl, Nat.le_of_ble_eq_true rfl⟩ ⟨(by decide), _, _, _, rfl, rfl, rfl⟩ rfl (Nat.le_of_ble_eq_true rfl) ⟨Nat.le_of_ble_eq_true rfl, Nat.le_of_ble_eq_true rfl⟩ dX6_goesBack_11 ?_
        rintro _ _ ⟨rfl, rfl⟩
        rw [← hsd]
        refine g_istore hB 4 dX6_goesBack_14 (by decide) ?_
        refine g_iconst hB (nI 0) dX6_goesBack_16 rfl ?_
        refine g_istore hB 5 dX6_goesBack_17 (by decide) ?_
        refine s_eq _ ?_ (g_sub _ rfl hin)
        rw [gbV_0, uS_self]
  refine g_iconst hB (nI 1) dX6_goesBack_0 rfl ?_
  refine g_istore_n hB 2 dX6_goesBack_1 rfl (by decide) ?_
  refine g_iconst hB (nI 0) dX6_goesBack_2 rfl ?_
  refine g_istore_n hB 3 dX6_goesBack_3 rfl (by decide) ?_
  exact g_sub _ rfl (loop (f + 1) 0 (by omega) (by omega))
end M3
