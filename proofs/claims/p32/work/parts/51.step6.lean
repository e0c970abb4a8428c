/-! entering a group -/
theorem eg_k {S : Mem} {i own g k : Nat} (h6 : k ≠ 6) (h7 : k ≠ 7) (h8 : k ≠ 8) : egM S i own g k = S k := by
  funext a
  unfold egM EM uM
  rw [uS_n (fun z => h8 z.1), uS_n (fun z => h6 z.1), uS_n (fun z => h7 z.1), uS_n (fun z => h6 z.1)]
theorem eg_6n {S : Mem} {i own g i' j : Nat} (h : i' ≠ i ∨ (j ≠ 1 ∧ j ≠ 3)) : egM S i own g 6 i' j = S 6 i' j := by
  unfold egM EM
  rw [uS_n (fun z => absurd z.1 (by decide)), uM_n (fun z => by omega), uS_n (fun z => absurd z.1 (by decide)), uM_n (fun z => by omega)]
theorem eg_61 {S : Mem} {i own g : Nat} : egM S i own g 6 i 1 = nI g := by
  unfold egM EM
  rw [uS_n (fun z => absurd z.1 (by decide)), uM_n (fun z => by omega), uS_n (fun z => absurd z.1 (by decide)), uM_s]
theorem eg_63 {S : Mem} {i own g : Nat} : egM S i own g 6 i 3 = nI (1 + (pth (S 1 1) g).length) := by
  unfold egM EM
  rw [uS_n (fun z => absurd z.1 (by decide)), uM_s]
theorem eg_7 {S : Mem} {i own g : Nat} : egM S i own g 7 i = ovl (S 7 i) 0 (1 + (pth (S 1 1) g).length) (egV own (S 1 1) g) := by
  unfold egM
  rw [uS_n (fun z => absurd z.1 (by decide)), EM_7]
theorem eg_7n {S : Mem} {i own g i' : Nat} (h : i' ≠ i) : egM S i own g 7 i' = S 7 i' := by
  unfold egM EM uM
  rw [uS_n (fun z => absurd z.1 (by decide)), uS_n (fun z => absurd z.1 (by decide)), uS_n (fun z => h z.2), uS_n (fun z => absurd z.1 (by decide))]
theorem eg_8 {S : Mem} {i own g : Nat} : egM S i own g 8 i = dpV S i (own :: pth (S 1 1) g) 10 := uS_s
theorem eg_8n {S : Mem} {i own g i' : Nat} (h : i' ≠ i) : egM S i own g 8 i' = S 8 i' := by
  unfold egM EM uM
  rw [uS_n (fun z => h z.2), uS_n (fun z => absurd z.1 (by decide)), uS_n (fun z => absurd z.1 (by decide)), uS_n (fun z => absurd z.1 (by decide))]
theorem eg_MK {S : Mem} {i own g ng : Nat} (hp : PAR (S 1 1) ng) (hng : ng ≤ 10) (hg : g < ng) (ho : own < 22) : MK (egM S i own g) i (own :: pth (S 1 1) g) := by
  obtain ⟨l1, l2, l3, l4, l5⟩ := pth_len hp hng (g + 1) g (Nat.lt_succ_self g) hg
  refine ⟨?_, by rw [List.length_cons]; omega, fun j hj => ?_⟩
  · rw [eg_63, List.length_cons, Nat.add_comm]
  · rw [List.length_cons] at hj
    refine ⟨?_, ?_⟩
    · rw [eg_7]
      have := ovl_in (f := S 7 i) (b := 0) (v := egV own (S 1 1) g) (show j < 1 + (pth (S 1 1) g).length by omega)
      rw [Nat.zero_add] at this
      rw [this]; rfl
    · have hm : (own :: pth (S 1 1) g).getD j 0 ∈ own :: pth (S 1 1) g := by
        rw [List.getD_eq_getElem?_getD, List.getElem?_eq_getElem (by rw [List.length_cons]; exact hj)]
        exact List.getElem_mem _
      rcases List.mem_cons.mp hm with z | z
      · omega
      · have := l3 _ z; omega
theorem par_eq {S : Mem} {ng nm nc t pa rk mo g : Nat} (h : INV S ng nm nc t pa rk mo) (hg : g < ng) : pth (S 1 1) g = pth (S 18 2) g := pth_ext h.2.1.2.2.2.2.2.1 h.1.1.2.2 h.1.2.2.2.2.2.1 h.1.1.2.2 (Nat.le_refl _) (fun x hx => h.2.2.2.2.1 x hx) (g + 1) g (Nat.lt_succ_self g) hg
theorem clay_own {S : Mem} {ng nm nc t pa rk mo i s : Nat} (h : INV S ng nm nc t pa rk mo) (hi : i < nm) (hs : s ∈ clay S i) : s = 10 + i ∨ (s < ng ∧ s ∈ pth (S 18 2) (grp S i)) := by
  have hnm := h.1.2.1.2
  rw [((h.2.2.2.2.2.2.1 i (by omega)).1 hi).2] at hs
  obtain ⟨g1, g2⟩ := RI_grp h.2.1 hi
  rcases List.mem_cons.mp hs with z | z
  · exact Or.inl z
  · have := (pth_len h.2.1.2.2.2.2.2.1 h.1.1.2.2 (grp S i + 1) (grp S i) (Nat.lt_succ_self _) g1).2.2.1 s z
    exact Or.inr ⟨by omega, z⟩
/-- the reference's cells of a machine that enters g; class's cells -/
theorem step_move {S : Mem} {ng nm nc t pa rk mo : Nat} (h : INV S ng nm nc t pa rk mo) (x y : Int32) : STEP (mmC S x y ng nm) (S 6 (ix x) 1) t mo (rMove (uM (TT S (mmC S x y ng nm) (uM (egM S (ix x) (10 + ix x) (ix y)) 19 0 0 (S 6 (ix x) 1))) 17 0 0 (nI 0)) x y ng nm) := by
  have hnm := h.1.2.1.2
  have hng := h.1.1.2.2
  unfold rMove
  cases h1 : rgB x nm with
  | false =>
    have e : mmC S x y ng nm = 1 := by unfold mmC; rw [h1]; rfl
    rw [e]
    exact step_f h (by decide) uM_uM
  | true =>
    obtain ⟨m, hm, rfl⟩ := rgB_t h1
    have im : ix (nI m) = m := ix_nI (by omega)
    rw [im]
    cases h2 : rgB y ng with
    | false =>
      have e : mmC S (nI m) y ng nm = 1 := by unfold mmC; rw [h1, h2]; rfl
      rw [e]
      exact step_f h (by decide) uM_uM
    | true =>
      obtain ⟨g, hg, rfl⟩ := rgB_t h2
      have ig : ix (nI g) = g := ix_nI (by omega)
      rw [ig]
      have hb : decide (S 17 0 1 < S 18 4 m) = decide (S 0 0 0 < S 6 m 2) := by rw [(h.2.2.2.2.2.2.1 m (by omega)).2, h.1.2.2.2.1.1, h.2.1.2.2.2.1.1]
      have e : mmC S (nI m) (nI g) ng nm = bif decide (S 0 0 0 < S 6 m 2) then 2 else 0 := by unfold mmC; rw [h1, h2, im]; rfl
      rw [e]
      cases hd : decide (S 0 0 0 < S 6 m 2) with
      | true =>
        rw [cond_true]
        show STEP 2 _ t mo (bif decide (S 17 0 1 < S 18 4 m) then fl (uM S 17 0 0 (nI 0)) 2 else _)
        rw [hb.trans hd, cond_true]
        exact step_f h (by decide) uM_uM
      | false =>
        rw [cond_false]
        obtain ⟨T2, hT2⟩ : ∃ T2, T2 = uS (uM (uM (uM (egM S m (10 + m) g) 19 0 0 (S 6 m 1)) 17 0 0 (nI 0)) 18 3 m (nI g)) 18 5 (mvV S m g ng) := ⟨_, rfl⟩
        have hs4 : uM (TT S 0 (uM (egM S m (10 + m) g) 19 0 0 (S 6 m 1))) 17 0 0 (nI 0) = uM (uM (egM S m (10 + m) g) 19 0 0 (S 6 m 1)) 17 0 0 (nI 0) := rfl
        rw [hs4]
        have e18 : ∀ i, uM (uM (egM S m (10 + m) g) 19 0 0 (S 6 m 1)) 17 0 0 (nI 0) 18 i = S 18 i := fun i => (congrFun (eg_k (S := S) (i := m) (own := 10 + m) (g := g) (k := 18) (by decide) (by decide) (by decide)) i)
        have e17 : uM (uM (egM S m (10 + m) g) 19 0 0 (S 6 m 1)) 17 0 0 (nI 0) 17 0 1 = S 17 0 1 := (congrFun (congrFun (eg_k (S := S) (i := m) (own := 10 + m) (g := g) (k := 17) (by decide) (by decide) (by decide)) 0) 1)
        have emv : mvV (uM (uM (egM S m (10 + m) g) 19 0 0 (S 6 m 1)) 17 0 0 (nI 0)) m g ng = mvV S m g ng := by unfold mvV; rw [e18, e18]
        rw [e18, e17, hb.trans hd, emv, cond_true, cond_true, cond_false, e18, ← hT2]
        have h0 := h
        obtain ⟨ki, ri, cnt, duty, par, per, mach, tk, ch, frs, giv, heads, ex, mom, st, rkk⟩ := h
        have hp1 := ki.2.2.2.2.2.1
        have hp2 := ri.2.2.2.2.2.1
        have epth : pth (S 1 1) g = pth (S 18 2) g := par_eq h0 hg
        obtain ⟨l1, l2, l3, l4, l5⟩ := pth_len hp2 hng (g + 1) g (Nat.lt_succ_self g) hg
        have k6 : ∀ a, T2 6 a = egM S m (10 + m) g 6 a := fun a => by rw [hT2]; rfl
        have k7 : ∀ a, T2 7 a = egM S m (10 + m) g 7 a := fun a => by rw [hT2]; rfl
        have k8 : ∀ a, T2 8 a = egM S m (10 + m) g 8 a := fun a => by rw [hT2]; rfl
        have k183 : T2 18 3 = upd (S 18 3) m (nI g) := by
          rw [hT2, uS_n (by decide)]
          show uS _ 18 3 (upd _ m (nI g)) 18 3 = _
          rw [uS_s, e18]
        have k185 : T2 18 5 = mvV S m g ng := by rw [hT2]; exact uS_s
        have k18 : ∀ i, i ≠ 3 → i ≠ 5 → T2 18 i = S 18 i := fun i a b => by
          rw [hT2, uS_n (fun z => b z.2)]
          exact (uS_n (fun z => a z.2)).trans (e18 i)
        have kk : ∀ k, k ≠ 6 → k ≠ 7 → k ≠ 8 → k ≠ 17 → k ≠ 18 → k ≠ 19 → T2 k = S k := fun k a b c d f j => by
          funext i
          rw [hT2]
          exact (uS_n (fun z => f z.1)).trans ((uS_n (fun z => f z.1)).trans ((uS_n (fun z => d z.1)).trans ((uS_n (fun z => j z.1)).trans (congrFun (eg_k a b c) i))))
        have k17 : ∀ j, j ≠ 0 → T2 17 0 j = S 17 0 j := fun j a => by
          rw [hT2]
          show uM _ 17 0 0 (nI 0) 17 0 j = _
          rw [uM_n (fun z => a z.2.2)]
          exact congrFun (congrFun (eg_k (S := S) (i := m) (own := 10 + m) (g := g) (k := 17) (by decide) (by decide) (by decide)) 0) j
        have k0 := kk 0 (by decide) (by decide) (by decide) (by decide) (by decide) (by decide)
        have k1 := kk 1 (by decide) (by decide) (by decide) (by decide) (by decide) (by decide)
        have k5 := kk 5 (by decide) (by decide) (by decide) (by decide) (by decide) (by decide)
        have k9 := kk 9 (by decide) (by decide) (by decide) (by decide) (by decide) (by decide)
        have k10 := kk 10 (by decide) (by decide) (by decide) (by decide) (by decide) (by decide)
        have k11 := kk 11 (by decide) (by decide) (by decide) (by decide) (by decide) (by decide)
        have k13 := kk 13 (by decide) (by decide) (by decide) (by decide) (by decide) (by decide)
        have k14 := kk 14 (by decide) (by decide) (by decide) (by decide) (by decide) (by decide)
        have hMK : MK T2 m ((10 + m) :: pth (S 18 2) g) := by
          rw [← epth]
          exact MK_fr (k6 m) (k7 m) (eg_MK hp1 hng hg (by omega))
        have hcm : clay T2 m = (10 + m) :: pth (S 18 2) g := clay_of hMK
        have hcn : ∀ i, i ≠ m → clay T2 i = clay S i := fun i hi => clay_V (by rw [k6]; exact eg_6n (Or.inl hi)) (by rw [k7]; exact eg_7n hi)
        have hgm : grp T2 m = g := by unfold grp; rw [k183, show upd (S 18 3) m (nI g) m = nI g from if_pos rfl]; exact ig
        have hgn : ∀ i, i ≠ m → grp T2 i = grp S i := fun i hi => by unfold grp; rw [k183, show upd (S 18 3) m (nI g) i = S 18 3 i from if_neg hi]
        have mv_in : ∀ s k, s ≤ 9 → k < 6 → mvV S m g ng (6 * (11 * m + s) + k) = if s ∈ pth (S 18 2) g then S 18 5 (6 * (11 * m + s) + k) else -1 := by
          intro s k hs hk
          unfold mvV
          have e1 : (6 * (11 * m + s) + k - 66 * m) / 6 = s := by omega
          rw [e1]
          by_cases hin : s ∈ pth (S 18 2) g
          · rw [if_pos hin, if_neg (fun z => z.2.2 hin)]
          · rw [if_neg hin]
            by_cases hsg : s < ng
            · rw [if_pos ⟨by omega, by omega, hin⟩]
            · rw [if_neg (fun z => by omega)]
              refine ri.2.2.2.2.2.2.2.2 m hm s hs (fun z => ?_) k hk
              have := (pth_len hp2 hng (grp S m + 1) (grp S m) (Nat.lt_succ_self _) (RI_grp ri hm).1).2.2.1 s z
              have := (RI_grp ri hm).1
              omega
        have mv_out : ∀ q, (q < 66 * m ∨ 66 * m + 60 ≤ q) → mvV S m g ng q = S 18 5 q := by
          intro q hq
          unfold mvV
          rw [if_neg (fun z => by omega)]
        have dp_in : ∀ s k, s ≤ 9 → k < 6 → dpV S m ((10 + m) :: pth (S 1 1) g) 10 (s * 6 + k) = if s ∈ pth (S 18 2) g then S 8 m (s * 6 + k) else -1 := by
          intro s k hs hk
          unfold dpV
          have e1 : (s * 6 + k) / 6 = s := by omega
          rw [e1, epth]
          by_cases hin : s ∈ pth (S 18 2) g
          · rw [if_pos hin, if_neg (fun z => z.2 (List.mem_cons_of_mem _ hin))]
          · rw [if_neg hin, if_pos ⟨by omega, fun z => (List.mem_cons.mp z).elim (fun w => by omega) hin⟩]
        have dp_out : ∀ q, 60 ≤ q → dpV S m ((10 + m) :: pth (S 1 1) g) 10 q = S 8 m q := by
          intro q hq
          unfold dpV
          rw [if_neg (fun z => by omega)]
        refine step_i (ng := ng) (nm := nm) (nc := nc) (t' := t) (pa := pa) (rk := rk) (mo' := mo) ?_ ?_ ⟨?_, ?_, ?_, ?_, ?_, ?_, ?_, ?_, ?_, ?_, ?_, ?_, ?_, ?_, ?_, ?_⟩ (by omega) (by omega)
        · rw [hT2]; rfl
        · exact ((mach m (by omega)).1 hm).1
        · obtain ⟨b1, b2, b3, b4, b5, b6, b7, b8, b9⟩ := ki
          refine ⟨by rw [k0]; exact b1, by rw [k0]; exact b2, by rw [k0]; exact b3, by rw [k0]; exact b4, by rw [k0]; exact b5, by rw [k1]; exact b6, fun i hi => ?_, by rw [k9]; exact b8, fun i hi => ?_⟩
          · by_cases hk : i = m
            · subst hk; rw [hcm]; exact hMK
            · rw [hcn i hk]
              have hb7 := b7 i hi
              unfold MK at hb7 ⊢
              rw [k6, k7, eg_6n (Or.inl hk), eg_7n hk]
              exact hb7
          · rw [k6, eg_6n (Or.inr ⟨by decide, by decide⟩)]; exact b9 i hi
        · obtain ⟨b1, b2, b3, b4, b5, b6, b7, b8, b9⟩ := ri
          refine ⟨by rw [k17 4 (by decide)]; exact b1, by rw [k17 6 (by decide)]; exact b2, by rw [k17 11 (by decide)]; exact b3, by rw [k17 1 (by decide)]; exact b4, by rw [k17 7 (by decide)]; exact b5, by rw [k18 2 (by decide) (by decide)]; exact b6, fun i hi => ?_, ?_, fun i hi s hs hn k hk => ?_⟩
          · rw [k183]
            by_cases hk : i = m
            · subst hk; exact ⟨g, hg, if_pos rfl⟩
            · rw [show upd (S 18 3) m (nI g) i = S 18 3 i from if_neg hk]; exact b7 i hi
          · intro q hq
            rw [k185]
            unfold mvV
            split
            · exact Or.inl rfl
            · exact b8 q hq
          · rw [k185]
            rw [k18 2 (by decide) (by decide)] at hn
            by_cases hk2 : i = m
            · subst hk2
              rw [hgm] at hn
              rw [mv_in s k hs hk, if_neg hn]
            · rw [hgn i hk2] at hn
              rw [mv_out _ (by omega)]
              exact b9 i hi s hs hn k hk
        · unfold I_cnt; rw [k0, k17 12 (by decide)]; exact cnt
        · intro i hi; rw [k1, k18 0 (by decide) (by decide)]; exact duty i hi
        · intro i hi; rw [k1, k18 2 (by decide) (by decide)]; exact par i hi
        · intro i hi; rw [k5, k18 1 (by decide) (by decide)]; exact per i hi
        · intro i hi
          rw [k18 4 (by decide) (by decide), k18 2 (by decide) (by decide), k183, k6]
          refine ⟨fun hi2 => ?_, (eg_6n (Or.inr ⟨by decide, by decide⟩)).trans (mach i hi).2⟩
          by_cases hk : i = m
          · subst hk
            rw [eg_61, show upd (S 18 3) i (nI g) i = nI g from if_pos rfl, hcm, hgm]
            exact ⟨rfl, rfl⟩
          · rw [eg_6n (Or.inl hk), show upd (S 18 3) m (nI g) i = S 18 3 i from if_neg hk, hcn i hk, hgn i hk]
            exact (mach i hi).1 hi2
        · refine ⟨fun i hi s hs k hk => ?_, fun i hi q hq => ?_⟩
          · rw [k185, k8]
            by_cases hk2 : i = m
            · subst hk2
              rw [eg_8]
              by_cases h10 : s = 10
              · subst h10
                rw [mv_out _ (by omega), show csl i 10 = 10 + i from if_pos rfl, dp_out _ (by omega)]
                have := tk.1 i hi 10 (by omega) k hk
                rw [show csl i 10 = 10 + i from if_pos rfl] at this
                exact this
              · have hc : csl i s = s := if_neg h10
                rw [hc, mv_in s k (by omega) hk, dp_in s k (by omega) hk]
                have := tk.1 i hi s hs k hk
                rw [hc] at this
                by_cases hin : s ∈ pth (S 18 2) g
                · rw [if_pos hin, if_pos hin]; exact this
                · rw [if_neg hin, if_neg hin]
            · rw [eg_8n hk2, mv_out _ (by omega)]
              exact tk.1 i hi s hs k hk
          · rw [k8, k9]
            by_cases hk2 : i = m
            · subst hk2
              rw [eg_8, hcm]
              rcases Nat.lt_or_ge q 60 with hq60 | hq60
              · have e1 : q = q / 6 * 6 + q % 6 := by omega
                have hdp := dp_in (q / 6) (q % 6) (by omega) (by omega)
                rw [← e1] at hdp
                rw [hdp]
                by_cases hin : q / 6 ∈ pth (S 18 2) g
                · rw [if_pos hin]
                  rcases tk.2 i hi q hq with z | ⟨z1, z2, z3⟩
                  · exact Or.inl z
                  · exact Or.inr ⟨z1, List.mem_cons_of_mem _ hin, z3⟩
                · rw [if_neg hin]; exact Or.inl rfl
              · rw [dp_out q hq60]
                rcases tk.2 i hi q hq with z | ⟨z1, z2, z3⟩
                · exact Or.inl z
                · rcases clay_own h0 z1 z2 with w | ⟨w, -⟩
                  · exact Or.inr ⟨z1, by rw [w]; exact List.mem_cons_self, z3⟩
                  · omega
            · rw [eg_8n hk2, hcn i hk2]
              exact tk.2 i hi q hq
        · intro c hc
          unfold I_ch1
          rw [k9, k14, k18 6 (by decide) (by decide), k18 7 (by decide) (by decide), k18 8 (by decide) (by decide), k18 9 (by decide) (by decide), k18 10 (by decide) (by decide), k18 11 (by decide) (by decide), k18 12 (by decide) (by decide)]
          exact ch c hc
        · intro c h1 h2
          rw [k9, k14, k18 11 (by decide) (by decide), k11]
          exact frs c h1 h2
        · exact giv_fr giv (fun c => by rw [k9]) (k18 13 (by decide) (by decide)) (k18 14 (by decide) (by decide)) k10 k11 (fun p j _ => by rw [k5])
        · intro q hq
          unfold hdOk hdC
          rw [k13, k14, k9]
          exact heads q hq
        · intro k o hk ho
          rw [k1, k18 15 (by decide) (by decide)]; exact ex k o hk ho
        · exact mom_fr mom k11 (fun p j _ => by rw [k5])
        · exact st_fr st (fun c => by rw [k9]) k10 k11 (fun p j _ => by rw [k5])
        · exact rk_fr rkk (fun c => by rw [k9]) (by rw [k14]) k10 k11 (fun p j _ => by rw [k5])
