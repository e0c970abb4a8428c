/-! the reference: what runs and what is due -/
section M6
variable {l : Launch} {D : va_G} {ad : Nat → Nat → Nat} {ca : Nat → ClassId} {SR : List (String × Nat × String)}

theorem c_X6_looks (S : Mem) (m g ng nc : Nat) (tk : Bool) (hp : PAR (S 18 2) ng) (hng : ng ≤ 10) (hg : g < ng) (hm : m < 12) (hgm : S 18 3 m = nI g) (hc : S 17 0 11 = nI nc) (hnc : nc ≤ 40) (hT : TK S) : CV l yX6_looks cX6_looks 9 none { frames := 2, cells := 0, slots := 0, locals := 48 } D ad CNT ca SR (SH ad ca S) [.ref (ad 17 0), .int (nI m), .int (bI (tk))] (fun E' => ∃ v f b, E' = SH ad ca (LK S v f b) ∧ LKOK S nc m g tk (lay (S 18 2) g).length 6 v f b) := by
  have hL := lay_len hp hng hg
  refine CV.of _ RX6 (by decide +kernel) rfl (Nat.le_of_ble_eq_true rfl) ?_
  intro p9 e9 s9 m9 a9 b9 me9 c9 A9 hB hr hnm9
  obtain ⟨len, hlen⟩ : ∃ len, len = (lay (S 18 2) g).length := ⟨_, rfl⟩
  rw [← hlen] at hL
  have inner : ∀ (K : Nat), K < 6 → (∀ v f b, LKOK S nc m g tk len (K + 1) v f b → G p9 l e9 { frames := 2, cells := 0, slots := 0, locals := 48 } s9 m9 a9 b9 me9 c9 D ad A9 9 (MQ b9 (va_Qv (fun E' => ∃ v f b, E' = SH ad ca (LK S v f b) ∧ LKOK S nc m g tk (lay (S 18 2) g).length 6 v f b) (fun E' t => WW D ad CNT A9 E' t.heap) A9) a9 s9 0 0 A9) 0 0 CNT (SH ad ca (LK S v f b)) 9 [(0, .ref (ad 17 0)), (1, .int (nI m)), (2, .int (bI (tk))), (3, .int (nI len)), (4, .int (nI (K + 1)))] []) →
      ∀ (n i : Nat) (v f b : Nat → Int32) (x : Int32), len - i < n → i ≤ len → LKOK S nc m g tk len K v f b → (v K, f K, b K) = lkR S nc m g tk K i → (i < len → x = bI (lkI S nc m g tk K i).isNone) → (x = nI 0 ∨ x = nI 1) → (x = nI 0 → lkI S nc m g tk K i ≠ none) → G p9 l e9 { frames := 2, cells := 0, slots := 0, locals := 48 } s9 m9 a9 b9 me9 c9 D ad A9 9 (MQ b9 (va_Qv (fun E' => ∃ v f b, E' = SH ad ca (LK S v f b) ∧ LKOK S nc m g tk (lay (S 18 2) g).length 6 v f b) (fun E' t => WW D ad CNT A9 E' t.heap) A9) a9 s9 0 0 A9) 0 0 CNT (SH ad ca (LK S v f b)) 46 [(0, .ref (ad 17 0)), (1, .int (nI m)), (2, .int (bI (tk))), (3, .int (nI len)), (4, .int (nI K)), (5, .int (x)), (6, .int (nI i))] [] := by
    intro K hK hnext n
    induction n with
    | zero => intro i v f b x h1; omega
    | succ n ih =>
      intro i v f b x h1 h2 hok hcur hx hx01 hx0
      have hout : (i = len ∨ lkI S nc m g tk K i ≠ none) → LKOK S nc m g tk len (K + 1) v f b := by
        intro hq k hk
        rcases Nat.lt_or_ge k K with q | q
        · exact hok k q
        · rw [show k = K by omega, hcur]
          rcases hq with hq | hq
          · rw [hq]
          · cases hj : lkI S nc m g tk K i with
            | none => exact absurd hj hq
            | some a => rw [lkR_s hj, lkR_s (fstN_stay hj h2)]
      refine g_iload hB 6 dX6_looks_46 rfl ?_
      refine g_iload_n hB 3 dX6_looks_48 rfl rfl ?_
      refine n_icmp_ge hB i len 179 dX6_looks_49 (by decide) (by omega) (by omega) (fun c_49 => ?_) (fun c_49 => ?_)
      · have hk : i = len := by omega
        refine g_iinc hB (nI (K + 1)) dX6_looks_179 rfl (nI_1 _) (by decide) ?_
        refine g_goto hB 9 dX6_looks_182 (by decide) ?_
        exact g_sub _ rfl (hnext v f b (hout (Or.inl hk)))
      · refine g_iload hB 5 dX6_looks_52 rfl ?_
        refine g_if_eq hB 179 dX6_looks_54 (by decide) (fun c_54 => ?_) (fun c_54 => ?_)
        · have hfin := hout (Or.inr (hx0 c_54))
          refine g_iinc hB (nI (K + 1)) dX6_looks_179 rfl (nI_1 _) (by decide) ?_
          refine g_goto hB 9 dX6_looks_182 (by decide) ?_
          exact g_sub _ rfl (hnext v f b hfin)
        · have hi : i < (lay (S 18 2) g).length := by rw [← hlen]; exact c_49
          have hs := lay_s10 hp hng hg hi
          obtain ⟨s, hsd⟩ : ∃ s, s = (lay (S 18 2) g).getD i 0 := ⟨_, rfl⟩
          rw [← hsd] at hs
          have hnone : lkI S nc m g tk K i = none := by
            have e := hx c_49
            cases hh : lkI S nc m g tk K i with
            | none => rfl
            | some a => rw [hh] at e; exact absurd e c_54
          have hnone2 : fstN (fun i => stopB S (chI S nc m tk ((lay (S 18 2) g).getD i 0) K)) i = none := hnone
          have hr0 : lkR S nc m g tk K i = (-1, -1, -1) := lkR_n hnone
          rw [hr0] at hcur
          refine g_aload_n hB 0 dX6_looks_57 rfl rfl ?_
          refine g_iload_n hB 1 dX6_looks_58 rfl rfl ?_
          refine g_iload hB 6 dX6_looks_59 rfl ?_
          refine g_callVI hB (c_X6_slot _ m g ng i hp hng hg hm hgm hi) k_X6_99 rfl yk_X6_slot ⟨Nat.le_of_ble_eq_true rfl, Nat.le_of_ble_eq_true rfl⟩ ⟨(by decide), _, _, _, rfl, rfl, rfl⟩ rfl (Nat.le_of_ble_eq_true rfl) ⟨Nat.le_of_ble_eq_true rfl, Nat.le_of_ble_eq_true rfl⟩ dX6_looks_61 ?_
          rintro _ _ ⟨rfl, rfl⟩
          rw [show (lay (LK S v f b 18 2) g).getD i 0 = s from hsd.symm]
          refine g_istore hB 7 dX6_looks_64 (by decide) ?_
          refine g_iload_n hB 2 dX6_looks_66 rfl rfl ?_
          refine b_if_eq hB (tk) 88 dX6_looks_67 (by decide) (fun c_67 => ?_) (fun c_67 => ?_)
          · refine g_aload_n hB 0 dX6_looks_88 rfl rfl ?_
            refine g_iload_n hB 1 dX6_looks_89 rfl rfl ?_
            refine g_iload hB 7 dX6_looks_90 rfl ?_
            refine g_iload hB 4 dX6_looks_92 rfl ?_
            refine g_callVI hB (c_X6_topOf _ m s K nc hc hnc hm hs (by omega)) k_X6_105 rfl yk_X6_topOf ⟨Nat.le_of_ble_eq_true rfl, Nat.le_of_ble_eq_true rfl⟩ ⟨(by decide), _, _, _, rfl, rfl, rfl⟩ rfl (Nat.le_of_ble_eq_true rfl) ⟨Nat.le_of_ble_eq_true rfl, Nat.le_of_ble_eq_true rfl⟩ dX6_looks_94 ?_
            rintro _ _ ⟨rfl, rfl⟩
            refine g_top ((chI S nc m tk s K)) (by rw [chI, c_67]; rfl) ?_
            refine g_istore hB 8 dX6_looks_97 (by decide) ?_
            refine g_iload hB 8 dX6_looks_99 rfl ?_
            refine g_iconst hB (-1) dX6_looks_101 rfl ?_
            refine g_icmp_eq hB 117 dX6_looks_102 (by decide) (fun c_102 => ?_) (fun c_102 => ?_)
            · have hst : stopB S (chI S nc m tk ((lay (S 18 2) g).getD i 0) K) = false := by rw [← hsd, stopB, c_102]; rfl
              refine g_iconst hB (nI 1) dX6_looks_117 rfl ?_
              refine g_goto hB 122 dX6_looks_118 (by decide) ?_
              refine g_istore hB 5 dX6_looks_122 (by decide) ?_
              refine g_iload hB 5 dX6_looks_124 rfl ?_
              refine g_if_ne hB 173 dX6_looks_126 (by decide) (fun _ => ?_) (fun z => absurd z (by decide))
              refine g_iinc hB (nI (i + 1)) dX6_looks_173 rfl (nI_1 _) (by decide) ?_
              refine g_goto hB 46 dX6_looks_176 (by decide) ?_
              have e : lkI S nc m g tk K (i + 1) = none := fstN_no hnone2 hst
              refine g_sub _ rfl (ih (i + 1) v f b _ (by omega) (by omega) hok ?_ (fun _ => ?_) (Or.inr rfl) (fun z => absurd z (by decide)))
              · rw [lkR_n e]; exact hcur
              · rw [e]; rfl
            · obtain ⟨d, hd, ed⟩ := (chI_in hT hnc hm hs hK).resolve_left c_102
              refine g_aload_n hB 0 dX6_looks_105 rfl rfl ?_
              refine g_get (ci := 6) (T := TX6) (N := 26) hB in_X6 rfl 17 0 17 (by decide) (by decide) rfl tw_fl_X6_47 rfl dX6_looks_106 ?_
              refine g_iload hB 8 dX6_looks_109 rfl ?_
              refine g_top (nI (d)) (ed) ?_
              refine g_iald hB 18 10 d (n := 40) (by decide) rfl (by first | assumption | omega) (Nat.le_of_ble_eq_true rfl) dX6_looks_111 ?_
              refine g_bipush hB (nI 101) dX6_looks_112 rfl ?_
              refine g_icmp_ne hB 121 dX6_looks_114 (by decide) (fun c_114 => ?_) (fun c_114 => ?_)
              · have hst : stopB S (chI S nc m tk ((lay (S 18 2) g).getD i 0) K) = true := by rw [← hsd, stopB, ed, ix_nI (by omega), decide_eq_true (p := S 18 10 d ≠ nI 101) c_114, decide_eq_true (m1_ne (by omega))]; rfl
                refine g_iconst hB (nI 0) dX6_looks_121 rfl ?_
                refine g_istore hB 5 dX6_looks_122 (by decide) ?_
                refine g_iload hB 5 dX6_looks_124 rfl ?_
                refine g_if_ne hB 173 dX6_looks_126 (by decide) (fun z => absurd rfl z) (fun _ => ?_)
                refine g_aload_n hB 0 dX6_looks_129 rfl rfl ?_
                refine g_get (ci := 6) (T := TX6) (N := 26) hB in_X6 rfl 17 0 17 (by decide) (by decide) rfl tw_fl_X6_47 rfl dX6_looks_130 ?_
                refine g_iload hB 8 dX6_looks_133 rfl ?_
                refine g_top (nI (d)) (ed) ?_
                refine g_iald hB 18 10 d (n := 40) (by decide) rfl (by first | assumption | omega) (Nat.le_of_ble_eq_true rfl) dX6_looks_135 ?_
                refine g_bipush hB (nI 100) dX6_looks_136 rfl ?_
                refine g_icmp_eq hB 173 dX6_looks_138 (by decide) (fun c_138 => ?_) (fun c_138 => ?_)
                · have hsp : lkR S nc m g tk K (i + 1) = (-1, -1, -1) := by rw [lkR_s (fstN_yes hnone2 hst), ← hsd, ed, ix_nI (by omega), decide_eq_true (p := S 18 10 d = nI 100) c_138]; rfl
                  refine g_iinc hB (nI (i + 1)) dX6_looks_173 rfl (nI_1 _) (by decide) ?_
                  refine g_goto hB 46 dX6_looks_176 (by decide) ?_
                  refine g_sub _ rfl (ih (i + 1) v f b _ (by omega) (by omega) hok ?_ (fun _ => ?_) (Or.inl rfl) (fun _ => ?_))
                  · rw [hsp]; exact hcur
                  · have e : lkI S nc m g tk K (i + 1) = some i := fstN_yes hnone2 hst
                    rw [e]; rfl
                  · have e : lkI S nc m g tk K (i + 1) = some i := fstN_yes hnone2 hst
                    rw [e]; exact fun z => by cases z
                · have hsp : lkR S nc m g tk K (i + 1) = (S 18 10 d, nI i, chI S nc m tk s K) := by rw [lkR_s (fstN_yes hnone2 hst), ← hsd, ed, ix_nI (by omega), decide_eq_false (p := S 18 10 d = nI 100) c_138]; rfl
                  refine g_aload_n hB 0 dX6_looks_141 rfl rfl ?_
                  refine g_get (ci := 6) (T := TX6) (N := 26) hB in_X6 rfl 17 0 23 (by decide) (by decide) rfl tw_fl_X6_65 rfl dX6_looks_142 ?_
                  refine g_iload hB 4 dX6_looks_145 rfl ?_
                  refine g_aload_n hB 0 dX6_looks_147 rfl rfl ?_
                  refine g_get (ci := 6) (T := TX6) (N := 26) hB in_X6 rfl 17 0 17 (by decide) (by decide) rfl tw_fl_X6_47 rfl dX6_looks_148 ?_
                  refine g_iload hB 8 dX6_looks_151 rfl ?_
                  refine g_top (nI (d)) (ed) ?_
                  refine g_iald hB 18 10 d (n := 40) (by decide) rfl (by first | assumption | omega) (Nat.le_of_ble_eq_true rfl) dX6_looks_153 ?_
                  refine s_iast hB 18 16 K (n := 6) (by decide) (fun _ => rfl) (by first | assumption | omega) (Nat.le_of_ble_eq_true rfl) dX6_looks_154 ?_
                  refine s_eq _ LK_v ?_
                  refine g_aload_n hB 0 dX6_looks_155 rfl rfl ?_
                  refine g_get (ci := 6) (T := TX6) (N := 26) hB in_X6 rfl 17 0 24 (by decide) (by decide) rfl tw_fl_X6_68 rfl dX6_looks_156 ?_
                  refine g_iload hB 4 dX6_looks_159 rfl ?_
                  refine g_iload hB 6 dX6_looks_161 rfl ?_
                  refine s_iast hB 18 17 K (n := 6) (by decide) (fun _ => rfl) (by first | assumption | omega) (Nat.le_of_ble_eq_true rfl) dX6_looks_163 ?_
                  refine s_eq _ LK_f ?_
                  refine g_aload_n hB 0 dX6_looks_164 rfl rfl ?_
                  refine g_get (ci := 6) (T := TX6) (N := 26) hB in_X6 rfl 17 0 25 (by decide) (by decide) rfl tw_fl_X6_71 rfl dX6_looks_165 ?_
                  refine g_iload hB 4 dX6_looks_168 rfl ?_
                  refine g_iload hB 8 dX6_looks_170 rfl ?_
                  refine s_iast hB 18 18 K (n := 6) (by decide) (fun _ => rfl) (by first | assumption | omega) (Nat.le_of_ble_eq_true rfl) dX6_looks_172 ?_
                  refine s_eq _ LK_b ?_
                  refine g_iinc hB (nI (i + 1)) dX6_looks_173 rfl (nI_1 _) (by decide) ?_
                  refine g_goto hB 46 dX6_looks_176 (by decide) ?_
                  refine g_sub _ rfl (ih (i + 1) _ _ _ _ (by omega) (by omega) (fun k hk => ?_) ?_ (fun _ => ?_) (Or.inl rfl) (fun _ => ?_))
                  · simp only [upd]; rw [if_neg (by omega), if_neg (by omega), if_neg (by omega)]; exact hok k hk
                  · rw [hsp]; simp [upd]; rfl
                  · have e : lkI S nc m g tk K (i + 1) = some i := fstN_yes hnone2 hst
                    rw [e]; rfl
                  · have e : lkI S nc m g tk K (i + 1) = some i := fstN_yes hnone2 hst
                    rw [e]; exact fun z => by cases z
              · have hst : stopB S (chI S nc m tk ((lay (S 18 2) g).getD i 0) K) = false := by rw [← hsd, stopB, ed, ix_nI (by omega), decide_eq_false (p := S 18 10 d ≠ nI 101) (fun z => z c_114), Bool.and_false]
                refine g_iconst hB (nI 1) dX6_looks_117 rfl ?_
                refine g_goto hB 122 dX6_looks_118 (by decide) ?_
                refine g_istore hB 5 dX6_looks_122 (by decide) ?_
                refine g_iload hB 5 dX6_looks_124 rfl ?_
                refine g_if_ne hB 173 dX6_looks_126 (by decide) (fun _ => ?_) (fun z => absurd z (by decide))
                refine g_iinc hB (nI (i + 1)) dX6_looks_173 rfl (nI_1 _) (by decide) ?_
                refine g_goto hB 46 dX6_looks_176 (by decide) ?_
                have e : lkI S nc m g tk K (i + 1) = none := fstN_no hnone2 hst
                refine g_sub _ rfl (ih (i + 1) v f b _ (by omega) (by omega) hok ?_ (fun _ => ?_) (Or.inr rfl) (fun z => absurd z (by decide)))
                · rw [lkR_n e]; exact hcur
                · rw [e]; rfl
          · refine g_aload_n hB 0 dX6_looks_70 rfl rfl ?_
            refine g_get (ci := 6) (T := TX6) (N := 26) hB in_X6 rfl 17 0 10 (by decide) (by decide) rfl tw_fl_X6_32 rfl dX6_looks_71 ?_
            refine g_aload_n hB 0 dX6_looks_74 rfl rfl ?_
            refine g_iload_n hB 1 dX6_looks_75 rfl rfl ?_
            refine g_iload hB 7 dX6_looks_76 rfl ?_
            refine g_callVI hB (c_X6_cells _ _ _) k_X6_102 rfl yk_X6_cells ⟨Nat.le_of_ble_eq_true rfl, Nat.le_of_ble_eq_true rfl⟩ ⟨(by decide), _, _, _, rfl, rfl, rfl⟩ rfl (Nat.le_of_ble_eq_true rfl) ⟨Nat.le_of_ble_eq_true rfl, Nat.le_of_ble_eq_true rfl⟩ dX6_looks_78 ?_
            rintro _ _ ⟨rfl, rfl⟩
            refine g_iload hB 4 dX6_looks_81 rfl ?_
            refine g_iadd hB dX6_looks_83 ?_
            refine g_top (nI (6 * (11 * m + s) + K)) (nI_add _ _) ?_
            refine g_iald hB 18 5 (6 * (11 * m + s) + K) (n := 792) (by decide) rfl (by first | assumption | omega) (Nat.le_of_ble_eq_true rfl) dX6_looks_84 ?_
            refine g_top ((chI S nc m tk s K)) (by rw [chI, c_67]; rfl) ?_
            refine g_goto hB 97 dX6_looks_85 (by decide) ?_
            refine g_istore hB 8 dX6_looks_97 (by decide) ?_
            refine g_iload hB 8 dX6_looks_99 rfl ?_
            refine g_iconst hB (-1) dX6_looks_101 rfl ?_
            refine g_icmp_eq hB 117 dX6_looks_102 (by decide) (fun c_102 => ?_) (fun c_102 => ?_)
            · have hst : stopB S (chI S nc m tk ((lay (S 18 2) g).getD i 0) K) = false := by rw [← hsd, stopB, c_102]; rfl
              refine g_iconst hB (nI 1) dX6_looks_117 rfl ?_
              refine g_goto hB 122 dX6_looks_118 (by decide) ?_
              refine g_istore hB 5 dX6_looks_122 (by decide) ?_
              refine g_iload hB 5 dX6_looks_124 rfl ?_
              refine g_if_ne hB 173 dX6_looks_126 (by decide) (fun _ => ?_) (fun z => absurd z (by decide))
              refine g_iinc hB (nI (i + 1)) dX6_looks_173 rfl (nI_1 _) (by decide) ?_
              refine g_goto hB 46 dX6_looks_176 (by decide) ?_
              have e : lkI S nc m g tk K (i + 1) = none := fstN_no hnone2 hst
              refine g_sub _ rfl (ih (i + 1) v f b _ (by omega) (by omega) hok ?_ (fun _ => ?_) (Or.inr rfl) (fun z => absurd z (by decide)))
              · rw [lkR_n e]; exact hcur
              · rw [e]; rfl
            · obtain ⟨d, hd, ed⟩ := (chI_in hT hnc hm hs hK).resolve_left c_102
              refine g_aload_n hB 0 dX6_looks_105 rfl rfl ?_
              refine g_get (ci := 6) (T := TX6) (N := 26) hB in_X6 rfl 17 0 17 (by decide) (by decide) rfl tw_fl_X6_47 rfl dX6_looks_106 ?_
              refine g_iload hB 8 dX6_looks_109 rfl ?_
              refine g_top (nI (d)) (ed) ?_
              refine g_iald hB 18 10 d (n := 40) (by decide) rfl (by first | assumption | omega) (Nat.le_of_ble_eq_true rfl) dX6_looks_111 ?_
              refine g_bipush hB (nI 101) dX6_looks_112 rfl ?_
              refine g_icmp_ne hB 121 dX6_looks_114 (by decide) (fun c_114 => ?_) (fun c_114 => ?_)
              · have hst : stopB S (chI S nc m tk ((lay (S 18 2) g).getD i 0) K) = true := by rw [← hsd, stopB, ed, ix_nI (by omega), decide_eq_true (p := S 18 10 d ≠ nI 101) c_114, decide_eq_true (m1_ne (by omega))]; rfl
                refine g_iconst hB (nI 0) dX6_looks_121 rfl ?_
                refine g_istore hB 5 dX6_looks_122 (by decide) ?_
                refine g_iload hB 5 dX6_looks_124 rfl ?_
                refine g_if_ne hB 173 dX6_looks_126 (by decide) (fun z => absurd rfl z) (fun _ => ?_)
                refine g_aload_n hB 0 dX6_looks_129 rfl rfl ?_
                refine g_get (ci := 6) (T := TX6) (N := 26) hB in_X6 rfl 17 0 17 (by decide) (by decide) rfl tw_fl_X6_47 rfl dX6_looks_130 ?_
                refine g_iload hB 8 dX6_looks_133 rfl ?_
                refine g_top (nI (d)) (ed) ?_
                refine g_iald hB 18 10 d (n := 40) (by decide) rfl (by first | assumption | omega) (Nat.le_of_ble_eq_true rfl) dX6_looks_135 ?_
                refine g_bipush hB (nI 100) dX6_looks_136 rfl ?_
                refine g_icmp_eq hB 173 dX6_looks_138 (by decide) (fun c_138 => ?_) (fun c_138 => ?_)
                · have hsp : lkR S nc m g tk K (i + 1) = (-1, -1, -1) := by rw [lkR_s (fstN_yes hnone2 hst), ← hsd, ed, ix_nI (by omega), decide_eq_true (p := S 18 10 d = nI 100) c_138]; rfl
                  refine g_iinc hB (nI (i + 1)) dX6_looks_173 rfl (nI_1 _) (by decide) ?_
                  refine g_goto hB 46 dX6_looks_176 (by decide) ?_
                  refine g_sub _ rfl (ih (i + 1) v f b _ (by omega) (by omega) hok ?_ (fun _ => ?_) (Or.inl rfl) (fun _ => ?_))
                  · rw [hsp]; exact hcur
                  · have e : lkI S nc m g tk K (i + 1) = some i := fstN_yes hnone2 hst
                    rw [e]; rfl
                  · have e : lkI S nc m g tk K (i + 1) = some i := fstN_yes hnone2 hst
                    rw [e]; exact fun z => by cases z
                · have hsp : lkR S nc m g tk K (i + 1) = (S 18 10 d, nI i, chI S nc m tk s K) := by rw [lkR_s (fstN_yes hnone2 hst), ← hsd, ed, ix_nI (by omega), decide_eq_false (p := S 18 10 d = nI 100) c_138]; rfl
                  refine g_aload_n hB 0 dX6_looks_141 rfl rfl ?_
                  refine g_get (ci := 6) (T := TX6) (N := 26) hB in_X6 rfl 17 0 23 (by decide) (by decide) rfl tw_fl_X6_65 rfl dX6_looks_142 ?_
                  refine g_iload hB 4 dX6_looks_145 rfl ?_
                  refine g_aload_n hB 0 dX6_looks_147 rfl rfl ?_
                  refine g_get (ci := 6) (T := TX6) (N := 26) hB in_X6 rfl 17 0 17 (by decide) (by decide) rfl tw_fl_X6_47 rfl dX6_looks_148 ?_
                  refine g_iload hB 8 dX6_looks_151 rfl ?_
                  refine g_top (nI (d)) (ed) ?_
                  refine g_iald hB 18 10 d (n := 40) (by decide) rfl (by first | assumption | omega) (Nat.le_of_ble_eq_true rfl) dX6_looks_153 ?_
                  refine s_iast hB 18 16 K (n := 6) (by decide) (fun _ => rfl) (by first | assumption | omega) (Nat.le_of_ble_eq_true rfl) dX6_looks_154 ?_
                  refine s_eq _ LK_v ?_
                  refine g_aload_n hB 0 dX6_looks_155 rfl rfl ?_
                  refine g_get (ci := 6) (T := TX6) (N := 26) hB in_X6 rfl 17 0 24 (by decide) (by decide) rfl tw_fl_X6_68 rfl dX6_looks_156 ?_
                  refine g_iload hB 4 dX6_looks_159 rfl ?_
                  refine g_iload hB 6 dX6_looks_161 rfl ?_
                  refine s_iast hB 18 17 K (n := 6) (by decide) (fun _ => rfl) (by first | assumption | omega) (Nat.le_of_ble_eq_true rfl) dX6_looks_163 ?_
                  refine s_eq _ LK_f ?_
                  refine g_aload_n hB 0 dX6_looks_164 rfl rfl ?_
                  refine g_get (ci := 6) (T := TX6) (N := 26) hB in_X6 rfl 17 0 25 (by decide) (by decide) rfl tw_fl_X6_71 rfl dX6_looks_165 ?_
                  refine g_iload hB 4 dX6_looks_168 rfl ?_
                  refine g_iload hB 8 dX6_looks_170 rfl ?_
                  refine s_iast hB 18 18 K (n := 6) (by decide) (fun _ => rfl) (by first | assumption | omega) (Nat.le_of_ble_eq_true rfl) dX6_looks_172 ?_
                  refine s_eq _ LK_b ?_
                  refine g_iinc hB (nI (i + 1)) dX6_looks_173 rfl (nI_1 _) (by decide) ?_
                  refine g_goto hB 46 dX6_looks_176 (by decide) ?_
                  refine g_sub _ rfl (ih (i + 1) _ _ _ _ (by omega) (by omega) (fun k hk => ?_) ?_ (fun _ => ?_) (Or.inl rfl) (fun _ => ?_))
                  · simp only [upd]; rw [if_neg (by omega), if_neg (by omega), if_neg (by omega)]; exact hok k hk
                  · rw [hsp]; simp [upd]; rfl
                  · have e : lkI S nc m g tk K (i + 1) = some i := fstN_yes hnone2 hst
                    rw [e]; rfl
                  · have e : lkI S nc m g tk K (i + 1) = some i := fstN_yes hnone2 hst
                    rw [e]; exact fun z => by cases z
              · have hst : stopB S (chI S nc m tk ((lay (S 18 2) g).getD i 0) K) = false := by rw [← hsd, stopB, ed, ix_nI (by omega), decide_eq_false (p := S 18 10 d ≠ nI 101) (fun z => z c_114), Bool.and_false]
                refine g_iconst hB (nI 1) dX6_looks_117 rfl ?_
                refine g_goto hB 122 dX6_looks_118 (by decide) ?_
                refine g_istore hB 5 dX6_looks_122 (by decide) ?_
                refine g_iload hB 5 dX6_looks_124 rfl ?_
                refine g_if_ne hB 173 dX6_looks_126 (by decide) (fun _ => ?_) (fun z => absurd z (by decide))
                refine g_iinc hB (nI (i + 1)) dX6_looks_173 rfl (nI_1 _) (by decide) ?_
                refine g_goto hB 46 dX6_looks_176 (by decide) ?_
                have e : lkI S nc m g tk K (i + 1) = none := fstN_no hnone2 hst
                refine g_sub _ rfl (ih (i + 1) v f b _ (by omega) (by omega) hok ?_ (fun _ => ?_) (Or.inr rfl) (fun z => absurd z (by decide)))
                · rw [lkR_n e]; exact hcur
                · rw [e]; rfl
  have loop : ∀ (n K : Nat) (v f b : Nat → Int32), 6 - K < n → K ≤ 6 → LKOK S nc m g tk len K v f b → G p9 l e9 { frames := 2, cells := 0, slots := 0, locals := 48 } s9 m9 a9 b9 me9 c9 D ad A9 9 (MQ b9 (va_Qv (fun E' => ∃ v f b, E' = SH ad ca (LK S v f b) ∧ LKOK S nc m g tk (lay (S 18 2) g).length 6 v f b) (fun E' t => WW D ad CNT A9 E' t.heap) A9) a9 s9 0 0 A9) 0 0 CNT (SH ad ca (LK S v f b)) 9 [(0, .ref (ad 17 0)), (1, .int (nI m)), (2, .int (bI (tk))), (3, .int (nI len)), (4, .int (nI K))] [] := by
    intro n
    induction n with
    | zero => intro K v f b h1; omega
    | succ n ih =>
      intro K v f b h1 h2 hok
      refine g_iload hB 4 dX6_looks_9 rfl ?_
      refine g_bipush hB (nI 6) dX6_looks_11 rfl ?_
      refine n_icmp_ge hB K 6 185 dX6_looks_13 (by decide) (by omega) (by omega) (fun c_13 => ?_) (fun c_13 => ?_)
      · have hk : K = 6 := by omega
        subst hk
        exact g_vret hB hr (Nat.le_of_ble_eq_true rfl) (Nat.le_of_ble_eq_true rfl) (⟨v, f, b, rfl, by rw [← hlen]; exact hok⟩) dX6_looks_185
      · refine g_aload_n hB 0 dX6_looks_16 rfl rfl ?_
        refine g_get (ci := 6) (T := TX6) (N := 26) hB in_X6 rfl 17 0 23 (by decide) (by decide) rfl tw_fl_X6_65 rfl dX6_looks_17 ?_
        refine g_iload hB 4 dX6_looks_20 rfl ?_
        refine g_iconst hB (-1) dX6_looks_22 rfl ?_
        refine s_iast hB 18 16 K (n := 6) (by decide) (fun _ => rfl) (by first | assumption | omega) (Nat.le_of_ble_eq_true rfl) dX6_looks_23 ?_
        refine s_eq _ LK_v ?_
        refine g_aload_n hB 0 dX6_looks_24 rfl rfl ?_
        refine g_get (ci := 6) (T := TX6) (N := 26) hB in_X6 rfl 17 0 24 (by decide) (by decide) rfl tw_fl_X6_68 rfl dX6_looks_25 ?_
        refine g_iload hB 4 dX6_looks_28 rfl ?_
        refine g_iconst hB (-1) dX6_looks_30 rfl ?_
        refine s_iast hB 18 17 K (n := 6) (by decide) (fun _ => rfl) (by first | assumption | omega) (Nat.le_of_ble_eq_true rfl) dX6_looks_31 ?_
        refine s_eq _ LK_f ?_
        refine g_aload_n hB 0 dX6_looks_32 rfl rfl ?_
        refine g_get (ci := 6) (T := TX6) (N := 26) hB in_X6 rfl 17 0 25 (by decide) (by decide) rfl tw_fl_X6_71 rfl dX6_looks_33 ?_
        refine g_iload hB 4 dX6_looks_36 rfl ?_
        refine g_iconst hB (-1) dX6_looks_38 rfl ?_
        refine s_iast hB 18 18 K (n := 6) (by decide) (fun _ => rfl) (by first | assumption | omega) (Nat.le_of_ble_eq_true rfl) dX6_looks_39 ?_
        refine s_eq _ LK_b ?_
        refine g_iconst hB (nI 1) dX6_looks_40 rfl ?_
        refine g_istore hB 5 dX6_looks_41 (by decide) ?_
        refine g_iconst hB (nI 0) dX6_looks_43 rfl ?_
        refine g_istore hB 6 dX6_looks_44 (by decide) ?_
        refine g_sub _ rfl (inner K (by omega) (fun v f b h => ih (K + 1) v f b (by omega) (by omega) h) (len + 1) 0 _ _ _ (nI 1) (by omega) (by omega) (fun k hk => ?_) ?_ (fun _ => rfl) (Or.inr rfl) (fun z => absurd z (by decide)))
        · simp only [upd]; rw [if_neg (by omega), if_neg (by omega), if_neg (by omega)]; exact hok k hk
        · rw [lkR_n rfl]; simp [upd]
  refine g_aload_n hB 0 dX6_looks_0 rfl rfl ?_
  refine g_iload_n hB 1 dX6_looks_1 rfl rfl ?_
  refine g_callVI hB (c_X6_layers _ m g ng hp hng hg hm hgm) k_X6_95 rfl yk_X6_layers ⟨Nat.le_of_ble_eq_true rfl, Nat.le_of_ble_eq_true rfl⟩ ⟨(by decide), _, _, _, rfl, rfl, rfl⟩ rfl (Nat.le_of_ble_eq_true rfl) ⟨Nat.le_of_ble_eq_true rfl, Nat.le_of_ble_eq_true rfl⟩ dX6_looks_2 ?_
  rintro _ _ ⟨rfl, rfl⟩
  refine g_istore_n hB 3 dX6_looks_5 rfl (by decide) ?_
  refine g_iconst hB (nI 0) dX6_looks_6 rfl ?_
  refine g_istore hB 4 dX6_looks_7 (by decide) ?_
  exact s_eq _ LK_self.symm (g_sub [(0, .ref (ad 17 0)), (1, .int (nI m)), (2, .int (bI tk)), (3, .int (nI len)), (4, .int (nI 0))] (by rw [hlen]; rfl) (loop 7 0 _ _ _ (by omega) (by omega) (fun k hk => absurd hk (by omega))))
theorem c_X6_isHidden (S : Mem) (k : Nat) (hk : k < 6) (hby : BYOK S) : CI l yX6_isHidden cX6_isHidden 5 (some .boolean) { frames := 0, cells := 0, slots := 0, locals := 0 } D ad CNT ca SR (SH ad ca S) [.ref (ad 17 0), .int (nI k)] (PR ad ca (bI (mHid S k)) S) := by
  refine CI.of _ RX6 (by decide +kernel) rfl (Nat.le_of_ble_eq_true rfl) ?_
  intro p9 e9 s9 m9 a9 b9 me9 c9 A9 hB hr hnm9
  have loop : ∀ (n o : Nat) (x : Int32), 6 - o < n → o ≤ 6 → x = bI (anyB (hidB S k) o) → G p9 l e9 { frames := 0, cells := 0, slots := 0, locals := 0 } s9 m9 a9 b9 me9 c9 D ad A9 5 (MQ b9 (va_Qi (PR ad ca (bI (mHid S k)) S) (fun E' t => WW D ad CNT A9 E' t.heap) A9) a9 s9 0 0 A9) 0 0 CNT (SH ad ca (S)) 4 [(0, .ref (ad 17 0)), (1, .int (nI k)), (2, .int (x)), (3, .int (nI o))] [] := by
    intro n
    induction n with
    | zero => intro o x h1; omega
    | succ n ih =>
      intro o x h1 h2 hx
      obtain ⟨b, hb⟩ : ∃ b, b = anyB (hidB S k) o := ⟨_, rfl⟩
      rw [← hb] at hx
      subst hx
      refine g_iload_n hB 3 dX6_isHidden_4 rfl rfl ?_
      refine g_bipush hB (nI 6) dX6_isHidden_5 rfl ?_
      refine n_icmp_ge hB o 6 127 dX6_isHidden_7 (by decide) (by omega) (by omega) (fun c_7 => ?_) (fun c_7 => ?_)
      · have hk : o = 6 := by omega
        subst hk
        refine g_iload_n hB 2 dX6_isHidden_127 rfl rfl ?_
        exact g_iret hB hr (nar_b _) (Nat.le_of_ble_eq_true rfl) (Nat.le_of_ble_eq_true rfl) (⟨by rw [hb]; rfl, rfl⟩) dX6_isHidden_128
      · refine g_aload_n hB 0 dX6_isHidden_10 rfl rfl ?_
        refine g_get (ci := 6) (T := TX6) (N := 26) hB in_X6 rfl 17 0 22 (by decide) (by decide) rfl tw_fl_X6_62 rfl dX6_isHidden_11 ?_
        refine g_iload_n hB 1 dX6_isHidden_14 rfl rfl ?_
        refine g_iald hB 18 15 k (n := 6) (by decide) rfl (by first | assumption | omega) (Nat.le_of_ble_eq_true rfl) dX6_isHidden_15 ?_
        refine g_iload_n hB 3 dX6_isHidden_16 rfl rfl ?_
        refine g_ishr hB dX6_isHidden_17 ?_
        refine g_iconst hB (nI 1) dX6_isHidden_18 rfl ?_
        refine g_iand hB dX6_isHidden_19 ?_
        refine g_iconst hB (nI 1) dX6_isHidden_20 rfl ?_
        refine g_icmp_ne hB 48 dX6_isHidden_21 (by decide) (fun c_21 => ?_) (fun c_21 => ?_)
        · have eh : hidB S k o = false := by unfold hidB bitI; rw [decide_eq_false c_21]; rfl
          refine g_iconst hB (nI 0) dX6_isHidden_48 rfl ?_
          refine g_istore hB 4 dX6_isHidden_49 (by decide) ?_
          refine g_iload_n hB 2 dX6_isHidden_51 rfl rfl ?_
          refine b_if_ne hB (b) 115 dX6_isHidden_52 (by decide) (fun c_52 => ?_) (fun c_52 => ?_)
          · refine g_iconst hB (nI 1) dX6_isHidden_115 rfl ?_
            refine g_goto hB 120 dX6_isHidden_116 (by decide) ?_
            refine g_istore_n hB 2 dX6_isHidden_120 rfl (by decide) ?_
            refine g_iinc hB (nI (o + 1)) dX6_isHidden_121 rfl (nI_1 _) (by decide) ?_
            refine g_goto hB 4 dX6_isHidden_124 (by decide) ?_
            refine g_sub _ rfl (ih (o + 1) _ (by omega) (by omega) ?_)
            rw [anyB, ← hb]
            first | (rw [c_52]; rfl) | (rw [eh, Bool.or_true]; rfl) | (rw [eh, c_52]; rfl)
          · refine g_iload hB 4 dX6_isHidden_55 rfl ?_
            refine g_if_eq hB 119 dX6_isHidden_57 (by decide) (fun _ => ?_) (fun z => absurd rfl z)
            refine g_iconst hB (nI 0) dX6_isHidden_119 rfl ?_
            refine g_istore_n hB 2 dX6_isHidden_120 rfl (by decide) ?_
            refine g_iinc hB (nI (o + 1)) dX6_isHidden_121 rfl (nI_1 _) (by decide) ?_
            refine g_goto hB 4 dX6_isHidden_124 (by decide) ?_
            refine g_sub _ rfl (ih (o + 1) _ (by omega) (by omega) ?_)
            rw [anyB, ← hb]
            first | (rw [c_52]; rfl) | (rw [eh, Bool.or_true]; rfl) | (rw [eh, c_52]; rfl)
        · refine g_aload_n hB 0 dX6_isHidden_24 rfl rfl ?_
          refine g_get (ci := 6) (T := TX6) (N := 26) hB in_X6 rfl 17 0 23 (by decide) (by decide) rfl tw_fl_X6_65 rfl dX6_isHidden_25 ?_
          refine g_iload_n hB 1 dX6_isHidden_28 rfl rfl ?_
          refine g_iald hB 18 16 k (n := 6) (by decide) rfl (by first | assumption | omega) (Nat.le_of_ble_eq_true rfl) dX6_isHidden_29 ?_
          refine g_iconst hB (-1) dX6_isHidden_30 rfl ?_
          refine g_icmp_eq hB 48 dX6_isHidden_31 (by decide) (fun c_31 => ?_) (fun c_31 => ?_)
          · have eh : hidB S k o = false := by unfold hidB; rw [decide_eq_false (p := S 18 16 k ≠ -1) (fun z => z c_31)]; simp
            refine g_iconst hB (nI 0) dX6_isHidden_48 rfl ?_
            refine g_istore hB 4 dX6_isHidden_49 (by decide) ?_
            refine g_iload_n hB 2 dX6_isHidden_51 rfl rfl ?_
            refine b_if_ne hB (b) 115 dX6_isHidden_52 (by decide) (fun c_52 => ?_) (fun c_52 => ?_)
            · refine g_iconst hB (nI 1) dX6_isHidden_115 rfl ?_
              refine g_goto hB 120 dX6_isHidden_116 (by decide) ?_
              refine g_istore_n hB 2 dX6_isHidden_120 rfl (by decide) ?_
              refine g_iinc hB (nI (o + 1)) dX6_isHidden_121 rfl (nI_1 _) (by decide) ?_
              refine g_goto hB 4 dX6_isHidden_124 (by decide) ?_
              refine g_sub _ rfl (ih (o + 1) _ (by omega) (by omega) ?_)
              rw [anyB, ← hb]
              first | (rw [c_52]; rfl) | (rw [eh, Bool.or_true]; rfl) | (rw [eh, c_52]; rfl)
            · refine g_iload hB 4 dX6_isHidden_55 rfl ?_
              refine g_if_eq hB 119 dX6_isHidden_57 (by decide) (fun _ => ?_) (fun z => absurd rfl z)
              refine g_iconst hB (nI 0) dX6_isHidden_119 rfl ?_
              refine g_istore_n hB 2 dX6_isHidden_120 rfl (by decide) ?_
              refine g_iinc hB (nI (o + 1)) dX6_isHidden_121 rfl (nI_1 _) (by decide) ?_
              refine g_goto hB 4 dX6_isHidden_124 (by decide) ?_
              refine g_sub _ rfl (ih (o + 1) _ (by omega) (by omega) ?_)
              rw [anyB, ← hb]
              first | (rw [c_52]; rfl) | (rw [eh, Bool.or_true]; rfl) | (rw [eh, c_52]; rfl)
          · refine g_aload_n hB 0 dX6_isHidden_34 rfl rfl ?_
            refine g_get (ci := 6) (T := TX6) (N := 26) hB in_X6 rfl 17 0 23 (by decide) (by decide) rfl tw_fl_X6_65 rfl dX6_isHidden_35 ?_
            refine g_iload_n hB 3 dX6_isHidden_38 rfl rfl ?_
            refine g_iald hB 18 16 o (n := 6) (by decide) rfl (by first | assumption | omega) (Nat.le_of_ble_eq_true rfl) dX6_isHidden_39 ?_
            refine g_iconst hB (-1) dX6_isHidden_40 rfl ?_
            refine g_icmp_eq hB 48 dX6_isHidden_41 (by decide) (fun c_41 => ?_) (fun c_41 => ?_)
            · have eh : hidB S k o = false := by unfold hidB; rw [decide_eq_false (p := S 18 16 o ≠ -1) (fun z => z c_41)]; simp
              refine g_iconst hB (nI 0) dX6_isHidden_48 rfl ?_
              refine g_istore hB 4 dX6_isHidden_49 (by decide) ?_
              refine g_iload_n hB 2 dX6_isHidden_51 rfl rfl ?_
              refine b_if_ne hB (b) 115 dX6_isHidden_52 (by decide) (fun c_52 => ?_) (fun c_52 => ?_)
              · refine g_iconst hB (nI 1) dX6_isHidden_115 rfl ?_
                refine g_goto hB 120 dX6_isHidden_116 (by decide) ?_
                refine g_istore_n hB 2 dX6_isHidden_120 rfl (by decide) ?_
                refine g_iinc hB (nI (o + 1)) dX6_isHidden_121 rfl (nI_1 _) (by decide) ?_
                refine g_goto hB 4 dX6_isHidden_124 (by decide) ?_
                refine g_sub _ rfl (ih (o + 1) _ (by omega) (by omega) ?_)
                rw [anyB, ← hb]
                first | (rw [c_52]; rfl) | (rw [eh, Bool.or_true]; rfl) | (rw [eh, c_52]; rfl)
              · refine g_iload hB 4 dX6_isHidden_55 rfl ?_
                refine g_if_eq hB 119 dX6_isHidden_57 (by decide) (fun _ => ?_) (fun z => absurd rfl z)
                refine g_iconst hB (nI 0) dX6_isHidden_119 rfl ?_
                refine g_istore_n hB 2 dX6_isHidden_120 rfl (by decide) ?_
                refine g_iinc hB (nI (o + 1)) dX6_isHidden_121 rfl (nI_1 _) (by decide) ?_
                refine g_goto hB 4 dX6_isHidden_124 (by decide) ?_
                refine g_sub _ rfl (ih (o + 1) _ (by omega) (by omega) ?_)
                rw [anyB, ← hb]
                first | (rw [c_52]; rfl) | (rw [eh, Bool.or_true]; rfl) | (rw [eh, c_52]; rfl)
            · obtain ⟨a, ha, ea⟩ := hby k hk c_31
              obtain ⟨d, hd, ed⟩ := hby o (by omega) c_41
              have ia := ix_nI (show a < 2 ^ 31 by omega)
              have id := ix_nI (show d < 2 ^ 31 by omega)
              have e0 : bitI (S 18 15 k) (nI o) = true := decide_eq_true c_21
              refine g_iconst hB (nI 1) dX6_isHidden_44 rfl ?_
              refine g_goto hB 49 dX6_isHidden_45 (by decide) ?_
              refine g_istore hB 4 dX6_isHidden_49 (by decide) ?_
              refine g_iload_n hB 2 dX6_isHidden_51 rfl rfl ?_
              refine b_if_ne hB (b) 115 dX6_isHidden_52 (by decide) (fun c_52 => ?_) (fun c_52 => ?_)
              · refine g_iconst hB (nI 1) dX6_isHidden_115 rfl ?_
                refine g_goto hB 120 dX6_isHidden_116 (by decide) ?_
                refine g_istore_n hB 2 dX6_isHidden_120 rfl (by decide) ?_
                refine g_iinc hB (nI (o + 1)) dX6_isHidden_121 rfl (nI_1 _) (by decide) ?_
                refine g_goto hB 4 dX6_isHidden_124 (by decide) ?_
                refine g_sub _ rfl (ih (o + 1) _ (by omega) (by omega) ?_)
                rw [anyB, ← hb]
                first | (rw [c_52]; rfl) | (rw [eh, Bool.or_true]; rfl) | (rw [eh, c_52]; rfl)
              · refine g_iload hB 4 dX6_isHidden_55 rfl ?_
                refine g_if_eq hB 119 dX6_isHidden_57 (by decide) (fun z => absurd z (by decide)) (fun _ => ?_)
                refine g_aload_n hB 0 dX6_isHidden_60 rfl rfl ?_
                refine g_get (ci := 6) (T := TX6) (N := 26) hB in_X6 rfl 17 0 24 (by decide) (by decide) rfl tw_fl_X6_68 rfl dX6_isHidden_61 ?_
                refine g_iload_n hB 1 dX6_isHidden_64 rfl rfl ?_
                refine g_iald hB 18 17 k (n := 6) (by decide) rfl (by first | assumption | omega) (Nat.le_of_ble_eq_true rfl) dX6_isHidden_65 ?_
                refine g_aload_n hB 0 dX6_isHidden_66 rfl rfl ?_
                refine g_get (ci := 6) (T := TX6) (N := 26) hB in_X6 rfl 17 0 24 (by decide) (by decide) rfl tw_fl_X6_68 rfl dX6_isHidden_67 ?_
                refine g_iload_n hB 3 dX6_isHidden_70 rfl rfl ?_
                refine g_iald hB 18 17 o (n := 6) (by decide) rfl (by first | assumption | omega) (Nat.le_of_ble_eq_true rfl) dX6_isHidden_71 ?_
                refine g_icmp_gt hB 115 dX6_isHidden_72 (by decide) (fun c_72 => ?_) (fun c_72 => ?_)
                · have eh : hidB S k o = true := by unfold hidB; simp only [e0, c_31, c_41, c_72, ne_eq, not_false_eq_true, decide_true, Bool.true_or, Bool.and_true]
                  refine g_iconst hB (nI 1) dX6_isHidden_115 rfl ?_
                  refine g_goto hB 120 dX6_isHidden_116 (by decide) ?_
                  refine g_istore_n hB 2 dX6_isHidden_120 rfl (by decide) ?_
                  refine g_iinc hB (nI (o + 1)) dX6_isHidden_121 rfl (nI_1 _) (by decide) ?_
                  refine g_goto hB 4 dX6_isHidden_124 (by decide) ?_
                  refine g_sub _ rfl (ih (o + 1) _ (by omega) (by omega) ?_)
                  rw [anyB, ← hb]
                  first | (rw [c_52]; rfl) | (rw [eh, Bool.or_true]; rfl) | (rw [eh, c_52]; rfl)
                · refine g_aload_n hB 0 dX6_isHidden_75 rfl rfl ?_
                  refine g_get (ci := 6) (T := TX6) (N := 26) hB in_X6 rfl 17 0 24 (by decide) (by decide) rfl tw_fl_X6_68 rfl dX6_isHidden_76 ?_
                  refine g_iload_n hB 1 dX6_isHidden_79 rfl rfl ?_
                  refine g_iald hB 18 17 k (n := 6) (by decide) rfl (by first | assumption | omega) (Nat.le_of_ble_eq_true rfl) dX6_isHidden_80 ?_
                  refine g_aload_n hB 0 dX6_isHidden_81 rfl rfl ?_
                  refine g_get (ci := 6) (T := TX6) (N := 26) hB in_X6 rfl 17 0 24 (by decide) (by decide) rfl tw_fl_X6_68 rfl dX6_isHidden_82 ?_
                  refine g_iload_n hB 3 dX6_isHidden_85 rfl rfl ?_
                  refine g_iald hB 18 17 o (n := 6) (by decide) rfl (by first | assumption | omega) (Nat.le_of_ble_eq_true rfl) dX6_isHidden_86 ?_
                  refine g_icmp_ne hB 119 dX6_isHidden_87 (by decide) (fun c_87 => ?_) (fun c_87 => ?_)
                  · have eh : hidB S k o = false := by unfold hidB; simp only [c_72, c_87, decide_false, Bool.false_and, Bool.or_false, Bool.and_false]
                    refine g_iconst hB (nI 0) dX6_isHidden_119 rfl ?_
                    refine g_istore_n hB 2 dX6_isHidden_120 rfl (by decide) ?_
                    refine g_iinc hB (nI (o + 1)) dX6_isHidden_121 rfl (nI_1 _) (by decide) ?_
                    refine g_goto hB 4 dX6_isHidden_124 (by decide) ?_
                    refine g_sub _ rfl (ih (o + 1) _ (by omega) (by omega) ?_)
                    rw [anyB, ← hb]
                    first | (rw [c_52]; rfl) | (rw [eh, Bool.or_true]; rfl) | (rw [eh, c_52]; rfl)
                  · refine g_aload_n hB 0 dX6_isHidden_90 rfl rfl ?_
                    refine g_get (ci := 6) (T := TX6) (N := 26) hB in_X6 rfl 17 0 19 (by decide) (by decide) rfl tw_fl_X6_53 rfl dX6_isHidden_91 ?_
                    refine g_aload_n hB 0 dX6_isHidden_94 rfl rfl ?_
                    refine g_get (ci := 6) (T := TX6) (N := 26) hB in_X6 rfl 17 0 25 (by decide) (by decide) rfl tw_fl_X6_71 rfl dX6_isHidden_95 ?_
                    refine g_iload_n hB 1 dX6_isHidden_98 rfl rfl ?_
                    refine g_iald hB 18 18 k (n := 6) (by decide) rfl (by first | assumption | omega) (Nat.le_of_ble_eq_true rfl) dX6_isHidden_99 ?_
                    refine g_top (nI (a)) (ea) ?_
                    refine g_iald hB 18 12 a (n := 40) (by decide) rfl (by first | assumption | omega) (Nat.le_of_ble_eq_true rfl) dX6_isHidden_100 ?_
                    refine g_aload_n hB 0 dX6_isHidden_101 rfl rfl ?_
                    refine g_get (ci := 6) (T := TX6) (N := 26) hB in_X6 rfl 17 0 19 (by decide) (by decide) rfl tw_fl_X6_53 rfl dX6_isHidden_102 ?_
                    refine g_aload_n hB 0 dX6_isHidden_105 rfl rfl ?_
                    refine g_get (ci := 6) (T := TX6) (N := 26) hB in_X6 rfl 17 0 25 (by decide) (by decide) rfl tw_fl_X6_71 rfl dX6_isHidden_106 ?_
                    refine g_iload_n hB 3 dX6_isHidden_109 rfl rfl ?_
                    refine g_iald hB 18 18 o (n := 6) (by decide) rfl (by first | assumption | omega) (Nat.le_of_ble_eq_true rfl) dX6_isHidden_110 ?_
                    refine g_top (nI (d)) (ed) ?_
                    refine g_iald hB 18 12 d (n := 40) (by decide) rfl (by first | assumption | omega) (Nat.le_of_ble_eq_true rfl) dX6_isHidden_111 ?_
                    refine g_icmp_ge hB 119 dX6_isHidden_112 (by decide) (fun c_112 => ?_) (fun c_112 => ?_)
                    · have eh : hidB S k o = false := by unfold hidB; rw [ea, ed, ia, id, decide_eq_false (p := S 18 12 a < S 18 12 d) (Int32.not_lt.mpr c_112)]; simp only [c_72, decide_false, Bool.false_and, Bool.or_false, Bool.and_false]
                      refine g_iconst hB (nI 0) dX6_isHidden_119 rfl ?_
                      refine g_istore_n hB 2 dX6_isHidden_120 rfl (by decide) ?_
                      refine g_iinc hB (nI (o + 1)) dX6_isHidden_121 rfl (nI_1 _) (by decide) ?_
                      refine g_goto hB 4 dX6_isHidden_124 (by decide) ?_
                      refine g_sub _ rfl (ih (o + 1) _ (by omega) (by omega) ?_)
                      rw [anyB, ← hb]
                      first | (rw [c_52]; rfl) | (rw [eh, Bool.or_true]; rfl) | (rw [eh, c_52]; rfl)
                    · have eh : hidB S k o = true := by unfold hidB; rw [ea, ed, ia, id, decide_eq_true (p := S 18 12 a < S 18 12 d) (Int32.not_le.mp c_112)]; simp only [e0, c_31, c_41, c_87, ne_eq, not_false_eq_true, decide_true, Bool.or_true, Bool.and_true]
                      refine g_iconst hB (nI 1) dX6_isHidden_115 rfl ?_
                      refine g_goto hB 120 dX6_isHidden_116 (by decide) ?_
                      refine g_istore_n hB 2 dX6_isHidden_120 rfl (by decide) ?_
                      refine g_iinc hB (nI (o + 1)) dX6_isHidden_121 rfl (nI_1 _) (by decide) ?_
                      refine g_goto hB 4 dX6_isHidden_124 (by decide) ?_
                      refine g_sub _ rfl (ih (o + 1) _ (by omega) (by omega) ?_)
                      rw [anyB, ← hb]
                      first | (rw [c_52]; rfl) | (rw [eh, Bool.or_true]; rfl) | (rw [eh, c_52]; rfl)
  refine g_iconst hB (nI 0) dX6_isHidden_0 rfl ?_
  refine g_istore_n hB 2 dX6_isHidden_1 rfl (by decide) ?_
  refine g_iconst hB (nI 0) dX6_isHidden_2 rfl ?_
  refine g_istore_n hB 3 dX6_isHidden_3 rfl (by decide) ?_
  exact g_sub _ rfl (loop 7 0 (bI false) (by omega) (by omega) rfl)
theorem c_X6_isAsked_f (S : Mem) (x y : Int32) (tk : Bool) (nm : Nat) (hm : S 17 0 6 = nI nm) (hnm : nm ≤ 12) (hq : askB x y nm = false) : CI l yX6_isAsked cX6_isAsked 4 (some .boolean) { frames := 3, cells := 0, slots := 0, locals := 76 } D ad CNT ca SR (SH ad ca S) [.ref (ad 17 0), .int (x), .int (y), .int (bI (tk))] (PR ad ca (nI 0) (uM S 17 0 0 (nI 1))) := by
  refine CI.of _ RX6 (by decide +kernel) rfl (Nat.le_of_ble_eq_true rfl) ?_
  intro p9 e9 s9 m9 a9 b9 me9 c9 A9 hB hr hnm9
  refine g_aload_n hB 0 dX6_isAsked_0 rfl rfl ?_
  refine g_aload_n hB 0 dX6_isAsked_1 rfl rfl ?_
  refine g_iload_n hB 1 dX6_isAsked_2 rfl rfl ?_
  refine g_callVI hB (c_X6_isMachine _ _ nm hm hnm) k_X6_145 rfl yk_X6_isMachine ⟨Nat.le_of_ble_eq_true rfl, Nat.le_of_ble_eq_true rfl⟩ ⟨(by decide), _, _, _, rfl, rfl, rfl⟩ rfl (Nat.le_of_ble_eq_true rfl) ⟨Nat.le_of_ble_eq_true rfl, Nat.le_of_ble_eq_true rfl⟩ dX6_isAsked_3 ?_
  rintro _ _ ⟨rfl, rfl⟩
  refine b_if_eq hB (rgB x nm) 20 dX6_isAsked_6 (by decide) (fun c_6 => ?_) (fun c_6 => ?_)
  · refine g_iconst hB (nI 1) dX6_isAsked_20 rfl ?_
    refine s_put (ci := 6) (T := TX6) (N := 26) hB in_X6 rfl tyX6 tyX6_ok nmX6 17 0 0 (by decide) (by decide) rfl rfl tw_fl_X6_74 rfl rfl rfl (Nat.le_of_ble_eq_true rfl) dX6_isAsked_21 ?_
    refine g_aload_n hB 0 dX6_isAsked_24 rfl rfl ?_
    refine g_get (ci := 6) (T := TX6) (N := 26) hB in_X6 rfl 17 0 0 (by decide) (by decide) rfl tw_fl_X6_74 rfl dX6_isAsked_25 ?_
    refine g_top ((nI 1)) rfl ?_
    refine g_if_ne hB 37 dX6_isAsked_28 (by decide) (fun _ => ?_) (fun z => absurd z (by decide))
    refine g_aload_n hB 0 dX6_isAsked_37 rfl rfl ?_
    refine g_get (ci := 6) (T := TX6) (N := 26) hB in_X6 rfl 17 0 0 (by decide) (by decide) rfl tw_fl_X6_74 rfl dX6_isAsked_38 ?_
    refine g_top ((nI 1)) rfl ?_
    refine g_if_ne hB 48 dX6_isAsked_41 (by decide) (fun _ => ?_) (fun z => absurd z (by decide))
    refine g_iconst hB (nI 0) dX6_isAsked_48 rfl ?_
    exact g_iret hB hr rfl (Nat.le_of_ble_eq_true rfl) (Nat.le_of_ble_eq_true rfl) (⟨rfl, rfl⟩) dX6_isAsked_49
  · refine g_iload_n hB 2 dX6_isAsked_9 rfl rfl ?_
    refine g_callSI hB (c_X6_isKey _ _) k_X6_154 yk_X6_isKey ⟨Nat.le_of_ble_eq_true rfl, Nat.le_of_ble_eq_true rfl⟩ rfl (Nat.le_of_ble_eq_true rfl) ⟨Nat.le_of_ble_eq_true rfl, Nat.le_of_ble_eq_true rfl⟩ dX6_isAsked_10 ?_
    rintro _ _ ⟨rfl, rfl⟩
    refine b_if_eq hB (rgB y 6) 20 dX6_isAsked_13 (by decide) (fun c_13 => ?_) (fun c_13 => ?_)
    · refine g_iconst hB (nI 1) dX6_isAsked_20 rfl ?_
      refine s_put (ci := 6) (T := TX6) (N := 26) hB in_X6 rfl tyX6 tyX6_ok nmX6 17 0 0 (by decide) (by decide) rfl rfl tw_fl_X6_74 rfl rfl rfl (Nat.le_of_ble_eq_true rfl) dX6_isAsked_21 ?_
      refine g_aload_n hB 0 dX6_isAsked_24 rfl rfl ?_
      refine g_get (ci := 6) (T := TX6) (N := 26) hB in_X6 rfl 17 0 0 (by decide) (by decide) rfl tw_fl_X6_74 rfl dX6_isAsked_25 ?_
      refine g_top ((nI 1)) rfl ?_
      refine g_if_ne hB 37 dX6_isAsked_28 (by decide) (fun _ => ?_) (fun z => absurd z (by decide))
      refine g_aload_n hB 0 dX6_isAsked_37 rfl rfl ?_
      refine g_get (ci := 6) (T := TX6) (N := 26) hB in_X6 rfl 17 0 0 (by decide) (by decide) rfl tw_fl_X6_74 rfl dX6_isAsked_38 ?_
      refine g_top ((nI 1)) rfl ?_
      refine g_if_ne hB 48 dX6_isAsked_41 (by decide) (fun _ => ?_) (fun z => absurd z (by decide))
      refine g_iconst hB (nI 0) dX6_isAsked_48 rfl ?_
      exact g_iret hB hr rfl (Nat.le_of_ble_eq_true rfl) (Nat.le_of_ble_eq_true rfl) (⟨rfl, rfl⟩) dX6_isAsked_49
    · exact absurd hq (by rw [askB, c_6, c_13]; decide)
theorem c_X6_isAsked_t (S : Mem) (m k g ng nc nm : Nat) (tk : Bool) (hm : S 17 0 6 = nI nm) (hnm : nm ≤ 12) (hp : PAR (S 18 2) ng) (hng : ng ≤ 10) (hg : g < ng) (hgm : S 18 3 m = nI g) (hc : S 17 0 11 = nI nc) (hnc : nc ≤ 40) (hT : TK S) (hmm : m < nm) (hk : k < 6) : CI l yX6_isAsked cX6_isAsked 4 (some .boolean) { frames := 3, cells := 0, slots := 0, locals := 76 } D ad CNT ca SR (SH ad ca S) [.ref (ad 17 0), .int (nI m), .int (nI k), .int (bI (tk))] (fun r E' => r = nI 1 ∧ ∃ v f b, E' = SH ad ca (LK (uM S 17 0 0 (nI 0)) v f b) ∧ LKOK (uM S 17 0 0 (nI 0)) nc m g tk (lay (S 18 2) g).length 6 v f b) := by
  have e1 : rgB (nI m) nm = true := by rw [rgB_nI (by omega)]; exact decide_eq_true hmm
  have e2 : rgB (nI k) 6 = true := by rw [rgB_nI (by omega)]; exact decide_eq_true hk
  refine CI.of _ RX6 (by decide +kernel) rfl (Nat.le_of_ble_eq_true rfl) ?_
  intro p9 e9 s9 m9 a9 b9 me9 c9 A9 hB hr hnm9
  refine g_aload_n hB 0 dX6_isAsked_0 rfl rfl ?_
  refine g_aload_n hB 0 dX6_isAsked_1 rfl rfl ?_
  refine g_iload_n hB 1 dX6_isAsked_2 rfl rfl ?_
  refine g_callVI hB (c_X6_isMachine _ _ nm hm hnm) k_X6_145 rfl yk_X6_isMachine ⟨Nat.le_of_ble_eq_true rfl, Nat.le_of_ble_eq_true rfl⟩ ⟨(by decide), _, _, _, rfl, rfl, rfl⟩ rfl (Nat.le_of_ble_eq_true rfl) ⟨Nat.le_of_ble_eq_true rfl, Nat.le_of_ble_eq_true rfl⟩ dX6_isAsked_3 ?_
  rintro _ _ ⟨rfl, rfl⟩
  refine b_if_eq hB (rgB (nI m) nm) 20 dX6_isAsked_6 (by decide) (fun c_6 => ?_) (fun c_6 => ?_)
  · rw [e1] at c_6; cases c_6
  · refine g_iload_n hB 2 dX6_isAsked_9 rfl rfl ?_
    refine g_callSI hB (c_X6_isKey _ _) k_X6_154 yk_X6_isKey ⟨Nat.le_of_ble_eq_true rfl, Nat.le_of_ble_eq_true rfl⟩ rfl (Nat.le_of_ble_eq_true rfl) ⟨Nat.le_of_ble_eq_true rfl, Nat.le_of_ble_eq_true rfl⟩ dX6_isAsked_10 ?_
    rintro _ _ ⟨rfl, rfl⟩
    refine b_if_eq hB (rgB (nI k) 6) 20 dX6_isAsked_13 (by decide) (fun c_13 => ?_) (fun c_13 => ?_)
    · rw [e2] at c_13; cases c_13
    · refine g_iconst hB (nI 0) dX6_isAsked_16 rfl ?_
      refine g_goto hB 21 dX6_isAsked_17 (by decide) ?_
      refine s_put (ci := 6) (T := TX6) (N := 26) hB in_X6 rfl tyX6 tyX6_ok nmX6 17 0 0 (by decide) (by decide) rfl rfl tw_fl_X6_74 rfl rfl rfl (Nat.le_of_ble_eq_true rfl) dX6_isAsked_21 ?_
      refine g_aload_n hB 0 dX6_isAsked_24 rfl rfl ?_
      refine g_get (ci := 6) (T := TX6) (N := 26) hB in_X6 rfl 17 0 0 (by decide) (by decide) rfl tw_fl_X6_74 rfl dX6_isAsked_25 ?_
      refine g_top ((nI 0)) rfl ?_
      refine g_if_ne hB 37 dX6_isAsked_28 (by decide) (fun z => absurd rfl z) (fun _ => ?_)
      refine g_aload_n hB 0 dX6_isAsked_31 rfl rfl ?_
      refine g_iload_n hB 1 dX6_isAsked_32 rfl rfl ?_
      refine g_iload_n hB 3 dX6_isAsked_33 rfl rfl ?_
      refine g_callVV hB (c_X6_looks _ m g ng nc tk hp hng hg (by omega) hgm hc hnc hT) k_X6_163 rfl yk_X6_looks ⟨Nat.le_of_ble_eq_true rfl, Nat.le_of_ble_eq_true rfl⟩ ⟨(by decide), _, _, _, rfl, rfl, rfl⟩ rfl (Nat.le_of_ble_eq_true rfl) ⟨Nat.le_of_ble_eq_true rfl, Nat.le_of_ble_eq_true rfl⟩ dX6_isAsked_34 ?_
      rintro _ ⟨v, f, b, rfl, hok⟩
      refine g_aload_n hB 0 dX6_isAsked_37 rfl rfl ?_
      refine g_get (ci := 6) (T := TX6) (N := 26) hB in_X6 rfl 17 0 0 (by decide) (by decide) rfl tw_fl_X6_74 rfl dX6_isAsked_38 ?_
      refine g_top ((nI 0)) (rfl) ?_
      refine g_if_ne hB 48 dX6_isAsked_41 (by decide) (fun z => absurd rfl z) (fun _ => ?_)
      refine g_iconst hB (nI 1) dX6_isAsked_44 rfl ?_
      refine g_goto hB 49 dX6_isAsked_45 (by decide) ?_
      exact g_iret hB hr rfl (Nat.le_of_ble_eq_true rfl) (Nat.le_of_ble_eq_true rfl) (⟨rfl, v, f, b, rfl, hok⟩) dX6_isAsked_49
theorem BY_of {S : Mem} {nc m g n ng : Nat} {tk : Bool} {v f b : Nat → Int32} (h : LKOK S nc m g tk n 6 v f b) (hT : TK S) (hn : nc ≤ 40) (hm : m < 12) (hp : PAR (S 18 2) ng) (hng : ng ≤ 10) (hg : g < ng) (hl : n = (lay (S 18 2) g).length) : BYOK (LK S v f b) := by
  intro j hj hv
  have h1 := h j hj
  have e1 : v j = (lkR S nc m g tk j n).1 := congrArg Prod.fst h1
  have e2 : b j = (lkR S nc m g tk j n).2.2 := congrArg (fun q => q.2.2) h1
  obtain ⟨c, hc, ec⟩ := lkR_by hT hn hm hj hp hng hg hl (show (lkR S nc m g tk j n).1 ≠ -1 by rw [← e1]; exact hv)
  exact ⟨c, hc, e2.trans ec⟩

def runV (S : Mem) (nc m g k : Nat) : Int32 := bif mHalt S m then -1 else bif rHid S nc m g true k then -1 else (rLook S nc m g true k).1
def runL (S : Mem) (nc m g k : Nat) : Int32 := bif mHalt S m then -1 else bif rHid S nc m g true k then -1 else (rLook S nc m g true k).2.1
def dueV (S : Mem) (nc m g k : Nat) : Int32 := bif rHid S nc m g false k then -1 else (rLook S nc m g false k).1
theorem c_X6_runs (S : Mem) (m k g ng nc nm : Nat) (hm : S 17 0 6 = nI nm) (hnm : nm ≤ 12) (hp : PAR (S 18 2) ng) (hng : ng ≤ 10) (hg : g < ng) (hgm : S 18 3 m = nI g) (hc : S 17 0 11 = nI nc) (hnc : nc ≤ 40) (hT : TK S) (hmm : m < nm) (hk : k < 6) : CI l yX6_runs cX6_runs 3 (some .int) { frames := 4, cells := 0, slots := 0, locals := 99 } D ad CNT ca SR (SH ad ca S) [.ref (ad 17 0), .int (nI m), .int (nI k)] (fun r E' => r = runV (uM S 17 0 0 (nI 0)) nc m g k ∧ ∃ v f b, E' = SH ad ca (LK (uM S 17 0 0 (nI 0)) v f b)) := by
  refine CI.of _ RX6 (by decide +kernel) rfl (Nat.le_of_ble_eq_true rfl) ?_
  intro p9 e9 s9 m9 a9 b9 me9 c9 A9 hB hr hnm9
  refine g_aload_n hB 0 dX6_runs_0 rfl rfl ?_
  refine g_iload_n hB 1 dX6_runs_1 rfl rfl ?_
  refine g_iload_n hB 2 dX6_runs_2 rfl rfl ?_
  refine g_iconst hB (nI 1) dX6_runs_3 rfl ?_
  refine g_callVI hB (c_X6_isAsked_t _ m k g ng nc nm true hm hnm hp hng hg hgm hc hnc hT hmm hk) k_X6_167 rfl yk_X6_isAsked ⟨Nat.le_of_ble_eq_true rfl, Nat.le_of_ble_eq_true rfl⟩ ⟨(by decide), _, _, _, rfl, rfl, rfl⟩ rfl (Nat.le_of_ble_eq_true rfl) ⟨Nat.le_of_ble_eq_true rfl, Nat.le_of_ble_eq_true rfl⟩ dX6_runs_4 ?_
  rintro _ _ ⟨rfl, v, f, b, rfl, hok⟩
  have hby := BY_of hok hT hnc (by omega) hp hng hg rfl
  have ehid := mHid_R hok hk
  have ev := hok k hk
  refine b_if_ne hB (true) 12 dX6_runs_7 (by decide) (fun c_7 => ?_) (fun c_7 => ?_)
  · refine g_aload_n hB 0 dX6_runs_12 rfl rfl ?_
    refine g_iload_n hB 1 dX6_runs_13 rfl rfl ?_
    refine g_callVI hB (c_X6_isHalted _ m (by omega) hT) k_X6_118 rfl yk_X6_isHalted ⟨Nat.le_of_ble_eq_true rfl, Nat.le_of_ble_eq_true rfl⟩ ⟨(by decide), _, _, _, rfl, rfl, rfl⟩ rfl (Nat.le_of_ble_eq_true rfl) ⟨Nat.le_of_ble_eq_true rfl, Nat.le_of_ble_eq_true rfl⟩ dX6_runs_14 ?_
    rintro _ _ ⟨rfl, rfl⟩
    refine b_if_ne hB (mHalt (uM S 17 0 0 (nI 0)) m) 28 dX6_runs_17 (by decide) (fun c_17 => ?_) (fun c_17 => ?_)
    · refine g_iconst hB (-1) dX6_runs_28 rfl ?_
      refine g_goto hB 38 dX6_runs_29 (by decide) ?_
      exact g_iret hB hr rfl (Nat.le_of_ble_eq_true rfl) (Nat.le_of_ble_eq_true rfl) (⟨by first | (rw [runV, c_17]; rfl) | (rw [runV, c_17, e25, rLook]; exact congrArg Prod.fst ev) | (rw [runV, c_17, e25]; rfl), v, f, b, rfl⟩) dX6_runs_38
    · refine g_aload_n hB 0 dX6_runs_20 rfl rfl ?_
      refine g_iload_n hB 2 dX6_runs_21 rfl rfl ?_
      refine g_callVI hB (c_X6_isHidden _ k hk hby) k_X6_171 rfl yk_X6_isHidden ⟨Nat.le_of_ble_eq_true rfl, Nat.le_of_ble_eq_true rfl⟩ ⟨(by decide), _, _, _, rfl, rfl, rfl⟩ rfl (Nat.le_of_ble_eq_true rfl) ⟨Nat.le_of_ble_eq_true rfl, Nat.le_of_ble_eq_true rfl⟩ dX6_runs_22 ?_
      rintro _ _ ⟨rfl, rfl⟩
      refine b_if_eq hB (mHid (LK (uM S 17 0 0 (nI 0)) v f b) k) 32 dX6_runs_25 (by decide) (fun c_25 => ?_) (fun c_25 => ?_)
      · rw [ehid] at c_25
        have e25 : rHid (uM S 17 0 0 (nI 0)) nc m g true k = false := c_25
        refine g_aload_n hB 0 dX6_runs_32 rfl rfl ?_
        refine g_get (ci := 6) (T := TX6) (N := 26) hB in_X6 rfl 17 0 23 (by decide) (by decide) rfl tw_fl_X6_65 rfl dX6_runs_33 ?_
        refine g_iload_n hB 2 dX6_runs_36 rfl rfl ?_
        refine g_iald hB 18 16 k (n := 6) (by decide) rfl (by first | assumption | omega) (Nat.le_of_ble_eq_true rfl) dX6_runs_37 ?_
        exact g_iret hB hr rfl (Nat.le_of_ble_eq_true rfl) (Nat.le_of_ble_eq_true rfl) (⟨by first | (rw [runV, c_17]; rfl) | (rw [runV, c_17, e25, rLook]; exact congrArg Prod.fst ev) | (rw [runV, c_17, e25]; rfl), v, f, b, rfl⟩) dX6_runs_38
      · rw [ehid] at c_25
        have e25 : rHid (uM S 17 0 0 (nI 0)) nc m g true k = true := c_25
        refine g_iconst hB (-1) dX6_runs_28 rfl ?_
        refine g_goto hB 38 dX6_runs_29 (by decide) ?_
        exact g_iret hB hr rfl (Nat.le_of_ble_eq_true rfl) (Nat.le_of_ble_eq_true rfl) (⟨by first | (rw [runV, c_17]; rfl) | (rw [runV, c_17, e25, rLook]; exact congrArg Prod.fst ev) | (rw [runV, c_17, e25]; rfl), v, f, b, rfl⟩) dX6_runs_38
  · cases c_7
theorem c_X6_layerOf (S : Mem) (m k g ng nc nm : Nat) (hm : S 17 0 6 = nI nm) (hnm : nm ≤ 12) (hp : PAR (S 18 2) ng) (hng : ng ≤ 10) (hg : g < ng) (hgm : S 18 3 m = nI g) (hc : S 17 0 11 = nI nc) (hnc : nc ≤ 40) (hT : TK S) (hmm : m < nm) (hk : k < 6) : CI l yX6_layerOf cX6_layerOf 3 (some .int) { frames := 4, cells := 0, slots := 0, locals := 99 } D ad CNT ca SR (SH ad ca S) [.ref (ad 17 0), .int (nI m), .int (nI k)] (fun r E' => r = runL (uM S 17 0 0 (nI 0)) nc m g k ∧ ∃ v f b, E' = SH ad ca (LK (uM S 17 0 0 (nI 0)) v f b)) := by
  refine CI.of _ RX6 (by decide +kernel) rfl (Nat.le_of_ble_eq_true rfl) ?_
  intro p9 e9 s9 m9 a9 b9 me9 c9 A9 hB hr hnm9
  refine g_aload_n hB 0 dX6_layerOf_0 rfl rfl ?_
  refine g_iload_n hB 1 dX6_layerOf_1 rfl rfl ?_
  refine g_iload_n hB 2 dX6_layerOf_2 rfl rfl ?_
  refine g_iconst hB (nI 1) dX6_layerOf_3 rfl ?_
  refine g_callVI hB (c_X6_isAsked_t _ m k g ng nc nm true hm hnm hp hng hg hgm hc hnc hT hmm hk) k_X6_167 rfl yk_X6_isAsked ⟨Nat.le_of_ble_eq_true rfl, Nat.le_of_ble_eq_true rfl⟩ ⟨(by decide), _, _, _, rfl, rfl, rfl⟩ rfl (Nat.le_of_ble_eq_true rfl) ⟨Nat.le_of_ble_eq_true rfl, Nat.le_of_ble_eq_true rfl⟩ dX6_layerOf_4 ?_
  rintro _ _ ⟨rfl, v, f, b, rfl, hok⟩
  have hby := BY_of hok hT hnc (by omega) hp hng hg rfl
  have ehid := mHid_R hok hk
  have ev := hok k hk
  refine b_if_ne hB (true) 12 dX6_layerOf_7 (by decide) (fun c_7 => ?_) (fun c_7 => ?_)
  · refine g_aload_n hB 0 dX6_layerOf_12 rfl rfl ?_
    refine g_iload_n hB 1 dX6_layerOf_13 rfl rfl ?_
    refine g_callVI hB (c_X6_isHalted _ m (by omega) hT) k_X6_118 rfl yk_X6_isHalted ⟨Nat.le_of_ble_eq_true rfl, Nat.le_of_ble_eq_true rfl⟩ ⟨(by decide), _, _, _, rfl, rfl, rfl⟩ rfl (Nat.le_of_ble_eq_true rfl) ⟨Nat.le_of_ble_eq_true rfl, Nat.le_of_ble_eq_true rfl⟩ dX6_layerOf_14 ?_
    rintro _ _ ⟨rfl, rfl⟩
    refine b_if_ne hB (mHalt (uM S 17 0 0 (nI 0)) m) 28 dX6_layerOf_17 (by decide) (fun c_17 => ?_) (fun c_17 => ?_)
    · refine g_iconst hB (-1) dX6_layerOf_28 rfl ?_
      refine g_goto hB 38 dX6_layerOf_29 (by decide) ?_
      exact g_iret hB hr rfl (Nat.le_of_ble_eq_true rfl) (Nat.le_of_ble_eq_true rfl) (⟨by first | (rw [runL, c_17]; rfl) | (rw [runL, c_17, e25, rLook]; exact congrArg (fun q => q.2.1) ev) | (rw [runL, c_17, e25]; rfl), v, f, b, rfl⟩) dX6_layerOf_38
    · refine g_aload_n hB 0 dX6_layerOf_20 rfl rfl ?_
      refine g_iload_n hB 2 dX6_layerOf_21 rfl rfl ?_
      refine g_callVI hB (c_X6_isHidden _ k hk hby) k_X6_171 rfl yk_X6_isHidden ⟨Nat.le_of_ble_eq_true rfl, Nat.le_of_ble_eq_true rfl⟩ ⟨(by decide), _, _, _, rfl, rfl, rfl⟩ rfl (Nat.le_of_ble_eq_true rfl) ⟨Nat.le_of_ble_eq_true rfl, Nat.le_of_ble_eq_true rfl⟩ dX6_layerOf_22 ?_
      rintro _ _ ⟨rfl, rfl⟩
      refine b_if_eq hB (mHid (LK (uM S 17 0 0 (nI 0)) v f b) k) 32 dX6_layerOf_25 (by decide) (fun c_25 => ?_) (fun c_25 => ?_)
      · rw [ehid] at c_25
        have e25 : rHid (uM S 17 0 0 (nI 0)) nc m g true k = false := c_25
        refine g_aload_n hB 0 dX6_layerOf_32 rfl rfl ?_
        refine g_get (ci := 6) (T := TX6) (N := 26) hB in_X6 rfl 17 0 24 (by decide) (by decide) rfl tw_fl_X6_68 rfl dX6_layerOf_33 ?_
        refine g_iload_n hB 2 dX6_layerOf_36 rfl rfl ?_
        refine g_iald hB 18 17 k (n := 6) (by decide) rfl (by first | assumption | omega) (Nat.le_of_ble_eq_true rfl) dX6_layerOf_37 ?_
        exact g_iret hB hr rfl (Nat.le_of_ble_eq_true rfl) (Nat.le_of_ble_eq_true rfl) (⟨by first | (rw [runL, c_17]; rfl) | (rw [runL, c_17, e25, rLook]; exact congrArg (fun q => q.2.1) ev) | (rw [runL, c_17, e25]; rfl), v, f, b, rfl⟩) dX6_layerOf_38
      · rw [ehid] at c_25
        have e25 : rHid (uM S 17 0 0 (nI 0)) nc m g true k = true := c_25
        refine g_iconst hB (-1) dX6_layerOf_28 rfl ?_
        refine g_goto hB 38 dX6_layerOf_29 (by decide) ?_
        exact g_iret hB hr rfl (Nat.le_of_ble_eq_true rfl) (Nat.le_of_ble_eq_true rfl) (⟨by first | (rw [runL, c_17]; rfl) | (rw [runL, c_17, e25, rLook]; exact congrArg (fun q => q.2.1) ev) | (rw [runL, c_17, e25]; rfl), v, f, b, rfl⟩) dX6_layerOf_38
  · cases c_7
theorem c_X6_isDue (S : Mem) (m k g ng nc nm : Nat) (hm : S 17 0 6 = nI nm) (hnm : nm ≤ 12) (hp : PAR (S 18 2) ng) (hng : ng ≤ 10) (hg : g < ng) (hgm : S 18 3 m = nI g) (hc : S 17 0 11 = nI nc) (hnc : nc ≤ 40) (hT : TK S) (hmm : m < nm) (hk : k < 6) : CI l yX6_isDue cX6_isDue 3 (some .int) { frames := 4, cells := 0, slots := 0, locals := 99 } D ad CNT ca SR (SH ad ca S) [.ref (ad 17 0), .int (nI m), .int (nI k)] (fun r E' => r = dueV (uM S 17 0 0 (nI 0)) nc m g k ∧ ∃ v f b, E' = SH ad ca (LK (uM S 17 0 0 (nI 0)) v f b)) := by
  refine CI.of _ RX6 (by decide +kernel) rfl (Nat.le_of_ble_eq_true rfl) ?_
  intro p9 e9 s9 m9 a9 b9 me9 c9 A9 hB hr hnm9
  refine g_aload_n hB 0 dX6_isDue_0 rfl rfl ?_
  refine g_iload_n hB 1 dX6_isDue_1 rfl rfl ?_
  refine g_iload_n hB 2 dX6_isDue_2 rfl rfl ?_
  refine g_iconst hB (nI 0) dX6_isDue_3 rfl ?_
  refine g_callVI hB (c_X6_isAsked_t _ m k g ng nc nm false hm hnm hp hng hg hgm hc hnc hT hmm hk) k_X6_167 rfl yk_X6_isAsked ⟨Nat.le_of_ble_eq_true rfl, Nat.le_of_ble_eq_true rfl⟩ ⟨(by decide), _, _, _, rfl, rfl, rfl⟩ rfl (Nat.le_of_ble_eq_true rfl) ⟨Nat.le_of_ble_eq_true rfl, Nat.le_of_ble_eq_true rfl⟩ dX6_isDue_4 ?_
  rintro _ _ ⟨rfl, v, f, b, rfl, hok⟩
  have hby := BY_of hok hT hnc (by omega) hp hng hg rfl
  have ehid := mHid_R hok hk
  have ev := hok k hk
  refine b_if_ne hB (true) 12 dX6_isDue_7 (by decide) (fun c_7 => ?_) (fun c_7 => ?_)
  · refine g_aload_n hB 0 dX6_isDue_12 rfl rfl ?_
    refine g_iload_n hB 2 dX6_isDue_13 rfl rfl ?_
    refine g_callVI hB (c_X6_isHidden _ k hk hby) k_X6_171 rfl yk_X6_isHidden ⟨Nat.le_of_ble_eq_true rfl, Nat.le_of_ble_eq_true rfl⟩ ⟨(by decide), _, _, _, rfl, rfl, rfl⟩ rfl (Nat.le_of_ble_eq_true rfl) ⟨Nat.le_of_ble_eq_true rfl, Nat.le_of_ble_eq_true rfl⟩ dX6_isDue_14 ?_
    rintro _ _ ⟨rfl, rfl⟩
    refine b_if_eq hB (mHid (LK (uM S 17 0 0 (nI 0)) v f b) k) 24 dX6_isDue_17 (by decide) (fun c_17 => ?_) (fun c_17 => ?_)
    · rw [ehid] at c_17
      have e25 : rHid (uM S 17 0 0 (nI 0)) nc m g false k = false := c_17
      refine g_aload_n hB 0 dX6_isDue_24 rfl rfl ?_
      refine g_get (ci := 6) (T := TX6) (N := 26) hB in_X6 rfl 17 0 23 (by decide) (by decide) rfl tw_fl_X6_65 rfl dX6_isDue_25 ?_
      refine g_iload_n hB 2 dX6_isDue_28 rfl rfl ?_
      refine g_iald hB 18 16 k (n := 6) (by decide) rfl (by first | assumption | omega) (Nat.le_of_ble_eq_true rfl) dX6_isDue_29 ?_
      exact g_iret hB hr rfl (Nat.le_of_ble_eq_true rfl) (Nat.le_of_ble_eq_true rfl) (⟨by first | (rw [dueV, e25, rLook]; exact congrArg Prod.fst ev) | (rw [dueV, e25]; rfl), v, f, b, rfl⟩) dX6_isDue_30
    · rw [ehid] at c_17
      have e25 : rHid (uM S 17 0 0 (nI 0)) nc m g false k = true := c_17
      refine g_iconst hB (-1) dX6_isDue_20 rfl ?_
      refine g_goto hB 30 dX6_isDue_21 (by decide) ?_
      exact g_iret hB hr rfl (Nat.le_of_ble_eq_true rfl) (Nat.le_of_ble_eq_true rfl) (⟨by first | (rw [dueV, e25, rLook]; exact congrArg Prod.fst ev) | (rw [dueV, e25]; rfl), v, f, b, rfl⟩) dX6_isDue_30
  · cases c_7
theorem c_X6_due (S : Mem) (m k g ng nc nm : Nat) (hm : S 17 0 6 = nI nm) (hnm : nm ≤ 12) (hp : PAR (S 18 2) ng) (hng : ng ≤ 10) (hg : g < ng) (hgm : S 18 3 m = nI g) (hc : S 17 0 11 = nI nc) (hnc : nc ≤ 40) (hT : TK S) (hmm : m < nm) (hk : k < 6) : CI l yX6_due cX6_due 3 (some .int) { frames := 5, cells := 0, slots := 0, locals := 121 } D ad CNT ca SR (SH ad ca S) [.ref (ad 17 0), .int (nI m), .int (nI k)] (fun r E' => r = dueV (uM S 17 0 0 (nI 0)) nc m g k ∧ ∃ v f b, E' = SH ad ca (LK (uM S 17 0 0 (nI 0)) v f b)) := by
  refine CI.of _ RX6 (by decide +kernel) rfl (Nat.le_of_ble_eq_true rfl) ?_
  intro p9 e9 s9 m9 a9 b9 me9 c9 A9 hB hr hnm9
  refine g_aload_n hB 0 dX6_due_0 rfl rfl ?_
  refine g_iload_n hB 1 dX6_due_1 rfl rfl ?_
  refine g_iload_n hB 2 dX6_due_2 rfl rfl ?_
  refine g_callVI hB (c_X6_isDue _ m k g ng nc nm hm hnm hp hng hg hgm hc hnc hT hmm hk) k_X6_174 rfl yk_X6_isDue ⟨Nat.le_of_ble_eq_true rfl, Nat.le_of_ble_eq_true rfl⟩ ⟨(by decide), _, _, _, rfl, rfl, rfl⟩ rfl (Nat.le_of_ble_eq_true rfl) ⟨Nat.le_of_ble_eq_true rfl, Nat.le_of_ble_eq_true rfl⟩ dX6_due_3 ?_
  rintro _ _ ⟨rfl, v, f, b, rfl⟩
  exact g_iret hB hr rfl (Nat.le_of_ble_eq_true rfl) (Nat.le_of_ble_eq_true rfl) (⟨rfl, v, f, b, rfl⟩) dX6_due_6
theorem c_X6_dueAnew (S : Mem) (m k g ng nc nm : Nat) (hm : S 17 0 6 = nI nm) (hnm : nm ≤ 12) (hp : PAR (S 18 2) ng) (hng : ng ≤ 10) (hg : g < ng) (hgm : S 18 3 m = nI g) (hc : S 17 0 11 = nI nc) (hnc : nc ≤ 40) (hT : TK S) (hmm : m < nm) (hk : k < 6) : CI l yX6_dueAnew cX6_dueAnew 3 (some .int) { frames := 5, cells := 0, slots := 0, locals := 121 } D ad CNT ca SR (SH ad ca S) [.ref (ad 17 0), .int (nI m), .int (nI k)] (fun r E' => r = dueV (uM S 17 0 0 (nI 0)) nc m g k ∧ ∃ v f b, E' = SH ad ca (LK (uM S 17 0 0 (nI 0)) v f b)) := by
  refine CI.of _ RX6 (by decide +kernel) rfl (Nat.le_of_ble_eq_true rfl) ?_
  intro p9 e9 s9 m9 a9 b9 me9 c9 A9 hB hr hnm9
  refine g_aload_n hB 0 dX6_dueAnew_0 rfl rfl ?_
  refine g_iload_n hB 1 dX6_dueAnew_1 rfl rfl ?_
  refine g_iload_n hB 2 dX6_dueAnew_2 rfl rfl ?_
  refine g_callVI hB (c_X6_isDue _ m k g ng nc nm hm hnm hp hng hg hgm hc hnc hT hmm hk) k_X6_174 rfl yk_X6_isDue ⟨Nat.le_of_ble_eq_true rfl, Nat.le_of_ble_eq_true rfl⟩ ⟨(by decide), _, _, _, rfl, rfl, rfl⟩ rfl (Nat.le_of_ble_eq_true rfl) ⟨Nat.le_of_ble_eq_true rfl, Nat.le_of_ble_eq_true rfl⟩ dX6_dueAnew_3 ?_
  rintro _ _ ⟨rfl, v, f, b, rfl⟩
  exact g_iret hB hr rfl (Nat.le_of_ble_eq_true rfl) (Nat.le_of_ble_eq_true rfl) (⟨rfl, v, f, b, rfl⟩) dX6_dueAnew_6

theorem c_X6_runs_f (S : Mem) (x y : Int32) (nm : Nat) (hm : S 17 0 6 = nI nm) (hnm : nm ≤ 12) (hq : askB x y nm = false) : CI l yX6_runs cX6_runs 3 (some .int) { frames := 4, cells := 0, slots := 0, locals := 99 } D ad CNT ca SR (SH ad ca S) [.ref (ad 17 0), .int (x), .int (y)] (PR ad ca (nI 0) (uM S 17 0 0 (nI 1))) := by
  refine CI.of _ RX6 (by decide +kernel) rfl (Nat.le_of_ble_eq_true rfl) ?_
  intro p9 e9 s9 m9 a9 b9 me9 c9 A9 hB hr hnm9
  refine g_aload_n hB 0 dX6_runs_0 rfl rfl ?_
  refine g_iload_n hB 1 dX6_runs_1 rfl rfl ?_
  refine g_iload_n hB 2 dX6_runs_2 rfl rfl ?_
  refine g_iconst hB (nI 1) dX6_runs_3 rfl ?_
  refine g_callVI hB (c_X6_isAsked_f _ x y true nm hm hnm hq) k_X6_167 rfl yk_X6_isAsked ⟨Nat.le_of_ble_eq_true rfl, Nat.le_of_ble_eq_true rfl⟩ ⟨(by decide), _, _, _, rfl, rfl, rfl⟩ rfl (Nat.le_of_ble_eq_true rfl) ⟨Nat.le_of_ble_eq_true rfl, Nat.le_of_ble_eq_true rfl⟩ dX6_runs_4 ?_
  rintro _ _ ⟨rfl, rfl⟩
  refine g_if_ne hB 12 dX6_runs_7 (by decide) (fun z => absurd rfl z) (fun _ => ?_)
  refine g_iconst hB (nI 0) dX6_runs_10 rfl ?_
  exact g_iret hB hr rfl (Nat.le_of_ble_eq_true rfl) (Nat.le_of_ble_eq_true rfl) (⟨rfl, rfl⟩) dX6_runs_11
theorem c_X6_layerOf_f (S : Mem) (x y : Int32) (nm : Nat) (hm : S 17 0 6 = nI nm) (hnm : nm ≤ 12) (hq : askB x y nm = false) : CI l yX6_layerOf cX6_layerOf 3 (some .int) { frames := 4, cells := 0, slots := 0, locals := 99 } D ad CNT ca SR (SH ad ca S) [.ref (ad 17 0), .int (x), .int (y)] (PR ad ca (nI 0) (uM S 17 0 0 (nI 1))) := by
  refine CI.of _ RX6 (by decide +kernel) rfl (Nat.le_of_ble_eq_true rfl) ?_
  intro p9 e9 s9 m9 a9 b9 me9 c9 A9 hB hr hnm9
  refine g_aload_n hB 0 dX6_layerOf_0 rfl rfl ?_
  refine g_iload_n hB 1 dX6_layerOf_1 rfl rfl ?_
  refine g_iload_n hB 2 dX6_layerOf_2 rfl rfl ?_
  refine g_iconst hB (nI 1) dX6_layerOf_3 rfl ?_
  refine g_callVI hB (c_X6_isAsked_f _ x y true nm hm hnm hq) k_X6_167 rfl yk_X6_isAsked ⟨Nat.le_of_ble_eq_true rfl, Nat.le_of_ble_eq_true rfl⟩ ⟨(by decide), _, _, _, rfl, rfl, rfl⟩ rfl (Nat.le_of_ble_eq_true rfl) ⟨Nat.le_of_ble_eq_true rfl, Nat.le_of_ble_eq_true rfl⟩ dX6_layerOf_4 ?_
  rintro _ _ ⟨rfl, rfl⟩
  refine g_if_ne hB 12 dX6_layerOf_7 (by decide) (fun z => absurd rfl z) (fun _ => ?_)
  refine g_iconst hB (nI 0) dX6_layerOf_10 rfl ?_
  exact g_iret hB hr rfl (Nat.le_of_ble_eq_true rfl) (Nat.le_of_ble_eq_true rfl) (⟨rfl, rfl⟩) dX6_layerOf_11
theorem c_X6_isDue_f (S : Mem) (x y : Int32) (nm : Nat) (hm : S 17 0 6 = nI nm) (hnm : nm ≤ 12) (hq : askB x y nm = false) : CI l yX6_isDue cX6_isDue 3 (some .int) { frames := 4, cells := 0, slots := 0, locals := 99 } D ad CNT ca SR (SH ad ca S) [.ref (ad 17 0), .int (x), .int (y)] (PR ad ca (nI 0) (uM S 17 0 0 (nI 1))) := by
  refine CI.of _ RX6 (by decide +kernel) rfl (Nat.le_of_ble_eq_true rfl) ?_
  intro p9 e9 s9 m9 a9 b9 me9 c9 A9 hB hr hnm9
  refine g_aload_n hB 0 dX6_isDue_0 rfl rfl ?_
  refine g_iload_n hB 1 dX6_isDue_1 rfl rfl ?_
  refine g_iload_n hB 2 dX6_isDue_2 rfl rfl ?_
  refine g_iconst hB (nI 0) dX6_isDue_3 rfl ?_
  refine g_callVI hB (c_X6_isAsked_f _ x y false nm hm hnm hq) k_X6_167 rfl yk_X6_isAsked ⟨Nat.le_of_ble_eq_true rfl, Nat.le_of_ble_eq_true rfl⟩ ⟨(by decide), _, _, _, rfl, rfl, rfl⟩ rfl (Nat.le_of_ble_eq_true rfl) ⟨Nat.le_of_ble_eq_true rfl, Nat.le_of_ble_eq_true rfl⟩ dX6_isDue_4 ?_
  rintro _ _ ⟨rfl, rfl⟩
  refine g_if_ne hB 12 dX6_isDue_7 (by decide) (fun z => absurd rfl z) (fun _ => ?_)
  refine g_iconst hB (nI 0) dX6_isDue_10 rfl ?_
  exact g_iret hB hr rfl (Nat.le_of_ble_eq_true rfl) (Nat.le_of_ble_eq_true rfl) (⟨rfl, rfl⟩) dX6_isDue_11
theorem c_X6_due_f (S : Mem) (x y : Int32) (nm : Nat) (hm : S 17 0 6 = nI nm) (hnm : nm ≤ 12) (hq : askB x y nm = false) : CI l yX6_due cX6_due 3 (some .int) { frames := 5, cells := 0, slots := 0, locals := 121 } D ad CNT ca SR (SH ad ca S) [.ref (ad 17 0), .int (x), .int (y)] (PR ad ca (nI 0) (uM S 17 0 0 (nI 1))) := by
  refine CI.of _ RX6 (by decide +kernel) rfl (Nat.le_of_ble_eq_true rfl) ?_
  intro p9 e9 s9 m9 a9 b9 me9 c9 A9 hB hr hnm9
  refine g_aload_n hB 0 dX6_due_0 rfl rfl ?_
  refine g_iload_n hB 1 dX6_due_1 rfl rfl ?_
  refine g_iload_n hB 2 dX6_due_2 rfl rfl ?_
  refine g_callVI hB (c_X6_isDue_f _ x y nm hm hnm hq) k_X6_174 rfl yk_X6_isDue ⟨Nat.le_of_ble_eq_true rfl, Nat.le_of_ble_eq_true rfl⟩ ⟨(by decide), _, _, _, rfl, rfl, rfl⟩ rfl (Nat.le_of_ble_eq_true rfl) ⟨Nat.le_of_ble_eq_true rfl, Nat.le_of_ble_eq_true rfl⟩ dX6_due_3 ?_
  rintro _ _ ⟨rfl, rfl⟩
  exact g_iret hB hr rfl (Nat.le_of_ble_eq_true rfl) (Nat.le_of_ble_eq_true rfl) (⟨rfl, rfl⟩) dX6_due_6
theorem c_X6_dueAnew_f (S : Mem) (x y : Int32) (nm : Nat) (hm : S 17 0 6 = nI nm) (hnm : nm ≤ 12) (hq : askB x y nm = false) : CI l yX6_dueAnew cX6_dueAnew 3 (some .int) { frames := 5, cells := 0, slots := 0, locals := 121 } D ad CNT ca SR (SH ad ca S) [.ref (ad 17 0), .int (x), .int (y)] (PR ad ca (nI 0) (uM S 17 0 0 (nI 1))) := by
  refine CI.of _ RX6 (by decide +kernel) rfl (Nat.le_of_ble_eq_true rfl) ?_
  intro p9 e9 s9 m9 a9 b9 me9 c9 A9 hB hr hnm9
  refine g_aload_n hB 0 dX6_dueAnew_0 rfl rfl ?_
  refine g_iload_n hB 1 dX6_dueAnew_1 rfl rfl ?_
  refine g_iload_n hB 2 dX6_dueAnew_2 rfl rfl ?_
  refine g_callVI hB (c_X6_isDue_f _ x y nm hm hnm hq) k_X6_174 rfl yk_X6_isDue ⟨Nat.le_of_ble_eq_true rfl, Nat.le_of_ble_eq_true rfl⟩ ⟨(by decide), _, _, _, rfl, rfl, rfl⟩ rfl (Nat.le_of_ble_eq_true rfl) ⟨Nat.le_of_ble_eq_true rfl, Nat.le_of_ble_eq_true rfl⟩ dX6_dueAnew_3 ?_
  rintro _ _ ⟨rfl, rfl⟩
  exact g_iret hB hr rfl (Nat.le_of_ble_eq_true rfl) (Nat.le_of_ble_eq_true rfl) (⟨rfl, rfl⟩) dX6_dueAnew_6
theorem c_X6_hidden_f (S : Mem) (x : Int32) (nm : Nat) (hm : S 17 0 6 = nI nm) (hnm : nm ≤ 12) (hq : askB x (nI 0) nm = false) : CI l yX6_hidden cX6_hidden 4 (some .int) { frames := 4, cells := 0, slots := 0, locals := 99 } D ad CNT ca SR (SH ad ca S) [.ref (ad 17 0), .int (x)] (PR ad ca (nI 0) (uM S 17 0 0 (nI 1))) := by
  refine CI.of _ RX6 (by decide +kernel) rfl (Nat.le_of_ble_eq_true rfl) ?_
  intro p9 e9 s9 m9 a9 b9 me9 c9 A9 hB hr hnm9
  refine g_aload_n hB 0 dX6_hidden_0 rfl rfl ?_
  refine g_iload_n hB 1 dX6_hidden_1 rfl rfl ?_
  refine g_iconst hB (nI 0) dX6_hidden_2 rfl ?_
  refine g_iconst hB (nI 0) dX6_hidden_3 rfl ?_
  refine g_callVI hB (c_X6_isAsked_f _ x _ false nm hm hnm hq) k_X6_167 rfl yk_X6_isAsked ⟨Nat.le_of_ble_eq_true rfl, Nat.le_of_ble_eq_true rfl⟩ ⟨(by decide), _, _, _, rfl, rfl, rfl⟩ rfl (Nat.le_of_ble_eq_true rfl) ⟨Nat.le_of_ble_eq_true rfl, Nat.le_of_ble_eq_true rfl⟩ dX6_hidden_4 ?_
  rintro _ _ ⟨rfl, rfl⟩
  refine g_if_ne hB 12 dX6_hidden_7 (by decide) (fun z => absurd rfl z) (fun _ => ?_)
  refine g_iconst hB (nI 0) dX6_hidden_10 rfl ?_
  exact g_iret hB hr rfl (Nat.le_of_ble_eq_true rfl) (Nat.le_of_ble_eq_true rfl) (⟨rfl, rfl⟩) dX6_hidden_11
theorem c_X6_hidden (S : Mem) (m g ng nc nm : Nat) (hm : S 17 0 6 = nI nm) (hnm : nm ≤ 12) (hp : PAR (S 18 2) ng) (hng : ng ≤ 10) (hg : g < ng) (hgm : S 18 3 m = nI g) (hc : S 17 0 11 = nI nc) (hnc : nc ≤ 40) (hT : TK S) (hmm : m < nm) : CI l yX6_hidden cX6_hidden 4 (some .int) { frames := 4, cells := 0, slots := 0, locals := 99 } D ad CNT ca SR (SH ad ca S) [.ref (ad 17 0), .int (nI m)] (fun r E' => r = orN (fun k => rHid (uM S 17 0 0 (nI 0)) nc m g false k) 6 ∧ ∃ v f b, E' = SH ad ca (LK (uM S 17 0 0 (nI 0)) v f b)) := by
  refine CI.of _ RX6 (by decide +kernel) rfl (Nat.le_of_ble_eq_true rfl) ?_
  intro p9 e9 s9 m9 a9 b9 me9 c9 A9 hB hr hnm9
  have loop : ∀ (v f b : Nat → Int32), LKOK (uM S 17 0 0 (nI 0)) nc m g false (lay (S 18 2) g).length 6 v f b → ∀ (n k : Nat) (x : Int32), 6 - k < n → k ≤ 6 → x = orN (fun k => rHid (uM S 17 0 0 (nI 0)) nc m g false k) k → G p9 l e9 { frames := 4, cells := 0, slots := 0, locals := 99 } s9 m9 a9 b9 me9 c9 D ad A9 4 (MQ b9 (va_Qi (fun r E' => r = orN (fun k => rHid (uM S 17 0 0 (nI 0)) nc m g false k) 6 ∧ ∃ v f b, E' = SH ad ca (LK (uM S 17 0 0 (nI 0)) v f b)) (fun E' t => WW D ad CNT A9 E' t.heap) A9) a9 s9 0 0 A9) 0 0 CNT (SH ad ca (LK (uM S 17 0 0 (nI 0)) v f b)) 16 [(0, .ref (ad 17 0)), (1, .int (nI m)), (2, .int (x)), (3, .int (nI k))] [] := by
    intro v f b hok n
    have hby := BY_of hok hT hnc (by omega) hp hng hg rfl
    induction n with
    | zero => intro k x h1; omega
    | succ n ih =>
      intro k x h1 h2 hx
      refine g_iload_n hB 3 dX6_hidden_16 rfl rfl ?_
      refine g_bipush hB (nI 6) dX6_hidden_17 rfl ?_
      refine n_icmp_ge hB k 6 46 dX6_hidden_19 (by decide) (by omega) (by omega) (fun c_19 => ?_) (fun c_19 => ?_)
      · have hk : k = 6 := by omega
        subst hk
        refine g_iload_n hB 2 dX6_hidden_46 rfl rfl ?_
        exact g_iret hB hr rfl (Nat.le_of_ble_eq_true rfl) (Nat.le_of_ble_eq_true rfl) (⟨hx, v, f, b, rfl⟩) dX6_hidden_47
      · refine g_iload_n hB 2 dX6_hidden_22 rfl rfl ?_
        refine g_aload_n hB 0 dX6_hidden_23 rfl rfl ?_
        refine g_iload_n hB 3 dX6_hidden_24 rfl rfl ?_
        refine g_callVI hB (c_X6_isHidden _ k c_19 hby) k_X6_171 rfl yk_X6_isHidden ⟨Nat.le_of_ble_eq_true rfl, Nat.le_of_ble_eq_true rfl⟩ ⟨(by decide), _, _, _, rfl, rfl, rfl⟩ rfl (Nat.le_of_ble_eq_true rfl) ⟨Nat.le_of_ble_eq_true rfl, Nat.le_of_ble_eq_true rfl⟩ dX6_hidden_25 ?_
        rintro _ _ ⟨rfl, rfl⟩
        refine b_if_eq hB (mHid (LK (uM S 17 0 0 (nI 0)) v f b) k) 37 dX6_hidden_28 (by decide) (fun c_28 => ?_) (fun c_28 => ?_)
        · rw [mHid_R hok c_19] at c_28
          have e25 : rHid (uM S 17 0 0 (nI 0)) nc m g false k = false := c_28
          refine g_iconst hB (nI 0) dX6_hidden_37 rfl ?_
          refine g_ior hB dX6_hidden_38 ?_
          refine g_istore_n hB 2 dX6_hidden_39 rfl (by decide) ?_
          refine g_iinc hB (nI (k + 1)) dX6_hidden_40 rfl (nI_1 _) (by decide) ?_
          refine g_goto hB 16 dX6_hidden_43 (by decide) ?_
          exact g_sub _ rfl (ih (k + 1) _ (by omega) (by omega) (by rw [orN, ← hx, e25]; rfl))
        · rw [mHid_R hok c_19] at c_28
          have e25 : rHid (uM S 17 0 0 (nI 0)) nc m g false k = true := c_28
          refine g_iconst hB (nI 1) dX6_hidden_31 rfl ?_
          refine g_iload_n hB 3 dX6_hidden_32 rfl rfl ?_
          refine g_ishl hB dX6_hidden_33 ?_
          refine g_goto hB 38 dX6_hidden_34 (by decide) ?_
          refine g_ior hB dX6_hidden_38 ?_
          refine g_istore_n hB 2 dX6_hidden_39 rfl (by decide) ?_
          refine g_iinc hB (nI (k + 1)) dX6_hidden_40 rfl (nI_1 _) (by decide) ?_
          refine g_goto hB 16 dX6_hidden_43 (by decide) ?_
          exact g_sub _ rfl (ih (k + 1) _ (by omega) (by omega) (by rw [orN, ← hx, e25]; rfl))
  refine g_aload_n hB 0 dX6_hidden_0 rfl rfl ?_
  refine g_iload_n hB 1 dX6_hidden_1 rfl rfl ?_
  refine g_iconst hB (nI 0) dX6_hidden_2 rfl ?_
  refine g_iconst hB (nI 0) dX6_hidden_3 rfl ?_
  refine g_callVI hB (c_X6_isAsked_t _ m 0 g ng nc nm false hm hnm hp hng hg hgm hc hnc hT hmm (by omega)) k_X6_167 rfl yk_X6_isAsked ⟨Nat.le_of_ble_eq_true rfl, Nat.le_of_ble_eq_true rfl⟩ ⟨(by decide), _, _, _, rfl, rfl, rfl⟩ rfl (Nat.le_of_ble_eq_true rfl) ⟨Nat.le_of_ble_eq_true rfl, Nat.le_of_ble_eq_true rfl⟩ dX6_hidden_4 ?_
  rintro _ _ ⟨rfl, v, f, b, rfl, hok⟩
  refine g_if_ne hB 12 dX6_hidden_7 (by decide) (fun _ => ?_) (fun z => absurd z (by decide))
  refine g_iconst hB (nI 0) dX6_hidden_12 rfl ?_
  refine g_istore_n hB 2 dX6_hidden_13 rfl (by decide) ?_
  refine g_iconst hB (nI 0) dX6_hidden_14 rfl ?_
  refine g_istore_n hB 3 dX6_hidden_15 rfl (by decide) ?_
  exact g_sub _ rfl (loop v f b hok 7 0 (nI 0) (by omega) (by omega) rfl)
end M6
