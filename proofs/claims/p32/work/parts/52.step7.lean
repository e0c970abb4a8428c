/-! a new machine -/
theorem step_addMachine {S : Mem} {ng nm nc t pa rk mo : Nat} (h : INV S ng nm nc t pa rk mo) (x : Int32) : STEP (amC x ng nm) (nI nm) t mo (rAddMachine (uM (TT S (amC x ng nm) (uM (amM S nm (ix x)) 19 0 0 (nI nm))) 17 0 0 (nI 0)) x ng nm) := by
  have hnm := h.1.2.1.2
  have hng := h.1.1.2.2
  unfold rAddMachine
  cases h1 : rgB x ng with
  | false =>
    have e : amC x ng nm = 1 := by unfold amC; rw [h1]; rfl
    rw [e]
    exact step_f h (by decide) uM_uM
  | true =>
    obtain ⟨g, hg, rfl⟩ := rgB_t h1
    have ig : ix (nI g) = g := ix_nI (by omega)
    rw [ig]
    by_cases h12 : nm = 12
    · have e : amC (nI g) ng nm = 2 := by unfold amC; rw [h1, decide_eq_true (show 12 ≤ nm by omega)]; rfl
      rw [e, decide_eq_true h12]
      exact step_f h (by decide) uM_uM
    · have e : amC (nI g) ng nm = 0 := by unfold amC; rw [h1, decide_eq_false (show ¬ 12 ≤ nm by omega)]; rfl
      rw [e, decide_eq_false h12]
      obtain ⟨m, hmdef⟩ : ∃ m, m = nm := ⟨nm, rfl⟩
      obtain ⟨T2, hT2⟩ : ∃ T2, T2 = uM (uM (uM (uM (amM S nm g) 19 0 0 (nI nm)) 17 0 0 (nI 0)) 18 3 nm (nI g)) 17 0 6 (nI (nm + 1)) := ⟨_, rfl⟩
      show STEP 0 (nI nm) t mo (nI nm, uM (uM (uM (uM (amM S nm g) 19 0 0 (nI nm)) 17 0 0 (nI 0)) 18 3 nm (nI g)) 17 0 6 (nI (nm + 1)))
      rw [← hT2]
      have h0 := h
      obtain ⟨ki, ri, cnt, duty, par, per, mach, tk, ch, frs, giv, heads, ex, mom, st, rkk⟩ := h
      have hp1 := ki.2.2.2.2.2.1
      have hp2 := ri.2.2.2.2.2.1
      have epth : pth (S 1 1) g = pth (S 18 2) g := par_eq h0 hg
      obtain ⟨l1, l2, l3, l4, l5⟩ := pth_len hp2 hng (g + 1) g (Nat.lt_succ_self g) hg
      have kE : ∀ k, k ≠ 0 → k ≠ 17 → k ≠ 18 → k ≠ 19 → T2 k = egM S nm (10 + nm) g k := fun k a b c d => by
        funext i
        rw [hT2]
        exact (uS_n (fun z => b z.1)).trans ((uS_n (fun z => c z.1)).trans ((uS_n (fun z => b z.1)).trans ((uS_n (fun z => d z.1)).trans (uS_n (fun z => a z.1)))))
      have kk : ∀ k, k ≠ 0 → k ≠ 6 → k ≠ 7 → k ≠ 8 → k ≠ 17 → k ≠ 18 → k ≠ 19 → T2 k = S k := fun k z a b c d f j => (kE k z d f j).trans (eg_k a b c)
      have k0 : ∀ j, j ≠ 7 → T2 0 0 j = S 0 0 j := fun j a => by
        rw [hT2]
        show uM (egM S nm (10 + nm) g) 0 0 7 (nI (nm + 1)) 0 0 j = _
        rw [uM_n (fun z => a z.2.2)]
        exact congrFun (congrFun (eg_k (S := S) (i := nm) (own := 10 + nm) (g := g) (k := 0) (by decide) (by decide) (by decide)) 0) j
      have k07 : T2 0 0 7 = nI (nm + 1) := by
        rw [hT2]
        show uM (egM S nm (10 + nm) g) 0 0 7 (nI (nm + 1)) 0 0 7 = _
        exact uM_s
      have k17 : ∀ j, j ≠ 0 → j ≠ 6 → T2 17 0 j = S 17 0 j := fun j a b => by
        rw [hT2]
        rw [uM_n (fun z => b z.2.2)]
        show uM _ 17 0 0 (nI 0) 17 0 j = _
        rw [uM_n (fun z => a z.2.2)]
        exact congrFun (congrFun (eg_k (S := S) (i := nm) (own := 10 + nm) (g := g) (k := 17) (by decide) (by decide) (by decide)) 0) j
      have k176 : T2 17 0 6 = nI (nm + 1) := by rw [hT2]; exact uM_s
      have e18 : ∀ i, egM S nm (10 + nm) g 18 i = S 18 i := fun i => congrFun (eg_k (S := S) (i := nm) (own := 10 + nm) (g := g) (k := 18) (by decide) (by decide) (by decide)) i
      have k18 : ∀ i, i ≠ 3 → T2 18 i = S 18 i := fun i a => by
        rw [hT2]
        exact (uS_n (fun z => absurd z.1 (by decide))).trans ((uS_n (fun z => a z.2)).trans (e18 i))
      have k183 : T2 18 3 = upd (S 18 3) nm (nI g) := by
        rw [hT2]
        show upd (egM S nm (10 + nm) g 18 3) nm (nI g) = _
        rw [e18]
      have k6 := kE 6 (by decide) (by decide) (by decide) (by decide)
      have k7 := kE 7 (by decide) (by decide) (by decide) (by decide)
      have k8 := kE 8 (by decide) (by decide) (by decide) (by decide)
      have k1 := kk 1 (by decide) (by decide) (by decide) (by decide) (by decide) (by decide) (by decide)
      have k5 := kk 5 (by decide) (by decide) (by decide) (by decide) (by decide) (by decide) (by decide)
      have k9 := kk 9 (by decide) (by decide) (by decide) (by decide) (by decide) (by decide) (by decide)
      have k10 := kk 10 (by decide) (by decide) (by decide) (by decide) (by decide) (by decide) (by decide)
      have k11 := kk 11 (by decide) (by decide) (by decide) (by decide) (by decide) (by decide) (by decide)
      have k13 := kk 13 (by decide) (by decide) (by decide) (by decide) (by decide) (by decide) (by decide)
      have k14 := kk 14 (by decide) (by decide) (by decide) (by decide) (by decide) (by decide) (by decide)
      have hMK : MK T2 nm ((10 + nm) :: pth (S 18 2) g) := by
        rw [← epth]
        exact MK_fr (by rw [k6]) (by rw [k7]) (eg_MK hp1 hng hg (by omega))
      have hcm : clay T2 nm = (10 + nm) :: pth (S 18 2) g := clay_of hMK
      have hcn : ∀ i, i ≠ nm → clay T2 i = clay S i := fun i hi => clay_V (by rw [k6]; exact eg_6n (Or.inl hi)) (by rw [k7]; exact eg_7n hi)
      have hgm : grp T2 nm = g := by unfold grp; rw [k183, show upd (S 18 3) nm (nI g) nm = nI g from if_pos rfl]; exact ig
      have hgn : ∀ i, i ≠ nm → grp T2 i = grp S i := fun i hi => by unfold grp; rw [k183, show upd (S 18 3) nm (nI g) i = S 18 3 i from if_neg hi]
      have h8 : ∀ q, q < 132 → S 8 nm q = -1 := fun q hq => by
        rcases tk.2 nm (by omega) q hq with z | ⟨z, -⟩
        · exact z
        · omega
      have h8' : ∀ q, q < 132 → T2 8 nm q = -1 := fun q hq => by
        rw [k8, eg_8]
        unfold dpV
        split
        · rfl
        · exact h8 q hq
      have h5' : ∀ s k, s ≤ 10 → k < 6 → S 18 5 (6 * (11 * nm + s) + k) = -1 := fun s k hs hk => by
        have := csl_lt (i := nm) (s := s) (by omega) hs
        rw [tk.1 nm (by omega) s hs k hk]; exact h8 _ (by omega)
      refine step_i (ng := ng) (nm := nm + 1) (nc := nc) (t' := t) (pa := pa) (rk := rk) (mo' := mo) ?_ rfl ⟨?_, ?_, ?_, ?_, ?_, ?_, ?_, ?_, ?_, ?_, ?_, ?_, ?_, ?_, ?_, ?_⟩ (by omega) (by omega)
      · rw [hT2]; rfl
      · obtain ⟨b1, b2, b3, b4, b5, b6, b7, b8, b9⟩ := ki
        refine ⟨by rw [k0 5 (by decide)]; exact b1, ⟨k07, by omega⟩, by rw [k0 9 (by decide)]; exact b3, by rw [k0 0 (by decide)]; exact b4, by rw [k0 1 (by decide)]; exact b5, by rw [k1]; exact b6, fun i hi => ?_, by rw [k9]; exact b8, fun i hi => ?_⟩
        · by_cases hk : i = nm
          · subst hk; rw [hcm]; exact hMK
          · rw [hcn i hk]
            have hb7 := b7 i (by omega)
            unfold MK at hb7 ⊢
            rw [k6, k7, eg_6n (Or.inl hk), eg_7n hk]
            exact hb7
        · rw [k6, eg_6n (Or.inr ⟨by decide, by decide⟩)]; exact b9 i hi
      · obtain ⟨b1, b2, b3, b4, b5, b6, b7, b8, b9⟩ := ri
        refine ⟨by rw [k17 4 (by decide) (by decide)]; exact b1, ⟨k176, by omega⟩, by rw [k17 11 (by decide) (by decide)]; exact b3, by rw [k17 1 (by decide) (by decide)]; exact b4, by rw [k17 7 (by decide) (by decide)]; exact b5, by rw [k18 2 (by decide)]; exact b6, fun i hi => ?_, ?_, fun i hi s hs hn k hk => ?_⟩
        · rw [k183]
          by_cases hk : i = nm
          · subst hk; exact ⟨g, hg, if_pos rfl⟩
          · rw [show upd (S 18 3) nm (nI g) i = S 18 3 i from if_neg hk]; exact b7 i (by omega)
        · intro q hq
          rw [k18 5 (by decide)]; exact b8 q hq
        · rw [k18 5 (by decide)]
          rw [k18 2 (by decide)] at hn
          by_cases hk2 : i = nm
          · subst hk2
            exact h5' s k (by omega) hk
          · rw [hgn i hk2] at hn
            exact b9 i (by omega) s hs hn k hk
      · unfold I_cnt; rw [k0 10 (by decide), k0 11 (by decide), k17 12 (by decide) (by decide)]; exact cnt
      · intro i hi; rw [k1, k18 0 (by decide)]; exact duty i hi
      · intro i hi; rw [k1, k18 2 (by decide)]; exact par i hi
      · intro i hi; rw [k5, k18 1 (by decide)]; exact per i hi
      · intro i hi
        rw [k18 4 (by decide), k18 2 (by decide), k183, k6]
        refine ⟨fun hi2 => ?_, (eg_6n (Or.inr ⟨by decide, by decide⟩)).trans (mach i hi).2⟩
        by_cases hk : i = nm
        · subst hk
          rw [eg_61, show upd (S 18 3) i (nI g) i = nI g from if_pos rfl, hcm, hgm]
          exact ⟨rfl, rfl⟩
        · rw [eg_6n (Or.inl hk), show upd (S 18 3) nm (nI g) i = S 18 3 i from if_neg hk, hcn i hk, hgn i hk]
          exact (mach i hi).1 (by omega)
      · refine ⟨fun i hi s hs k hk => ?_, fun i hi q hq => ?_⟩
        · rw [k18 5 (by decide)]
          have := csl_lt hi hs
          by_cases hk2 : i = nm
          · subst hk2
            rw [h8' _ (by omega), h5' s k hs hk]
          · rw [k8, eg_8n hk2]
            exact tk.1 i hi s hs k hk
        · by_cases hk2 : i = nm
          · subst hk2
            exact Or.inl (h8' q hq)
          · rw [k8, k9, eg_8n hk2, hcn i hk2]
            rcases tk.2 i hi q hq with z | ⟨z1, z2⟩
            · exact Or.inl z
            · exact Or.inr ⟨by omega, z2⟩
      · intro c hc
        obtain ⟨a, s, k, c1, c2, c3, c4, c5, c6, c7, c8, c9, c10⟩ := ch c hc
        unfold I_ch1
        rw [k9, k14, k18 6 (by decide), k18 7 (by decide), k18 8 (by decide), k18 9 (by decide), k18 10 (by decide), k18 11 (by decide), k18 12 (by decide)]
        exact ⟨a, s, k, c1, c2, c3, c4, c5, c6, c7, c8, by omega, c10⟩
      · intro c h1 h2
        rw [k9, k14, k18 11 (by decide), k11]
        exact frs c h1 h2
      · exact giv_fr giv (fun c => by rw [k9]) (k18 13 (by decide)) (k18 14 (by decide)) k10 k11 (fun p j _ => by rw [k5])
      · intro q hq
        unfold hdOk hdC
        rw [k13, k14, k9]
        exact heads q hq
      · intro k o hk ho
        rw [k1, k18 15 (by decide)]; exact ex k o hk ho
      · exact mom_fr mom k11 (fun p j _ => by rw [k5])
      · exact st_fr st (fun c => by rw [k9]) k10 k11 (fun p j _ => by rw [k5])
      · exact rk_fr rkk (fun c => by rw [k9]) (by rw [k14]) k10 k11 (fun p j _ => by rw [k5])
