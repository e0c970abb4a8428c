/-! days: what machines take -/
theorem INV_tk {S T : Mem} {ng nm nc t pa rk mo : Nat} (h : INV S ng nm nc t pa rk mo) (f : ∀ k i, k ≠ 8 → ¬ (k = 18 ∧ i = 5) → T k i = S k i) (ri : RI T ng nm nc t pa) (tk : I_tk T nm nc) : INV T ng nm nc t pa rk mo := by
  obtain ⟨ki, -, cnt, duty, par, per, mach, -, ch, frs, giv, heads, ex, mom, st, rkk⟩ := h
  have g : ∀ a, a ≠ 8 → a ≠ 18 → T a = S a := fun a q1 q2 => funext fun i => f a i q1 (fun z => q2 z.1)
  have k18 : ∀ i, i ≠ 5 → T 18 i = S 18 i := fun i q => f 18 i (by decide) (fun z => q z.2)
  have k0 := g 0 (by decide) (by decide)
  have k1 := g 1 (by decide) (by decide)
  have k5 := g 5 (by decide) (by decide)
  have k6 := g 6 (by decide) (by decide)
  have k7 := g 7 (by decide) (by decide)
  have k9 := g 9 (by decide) (by decide)
  have k10 := g 10 (by decide) (by decide)
  have k11 := g 11 (by decide) (by decide)
  have k13 := g 13 (by decide) (by decide)
  have k14 := g 14 (by decide) (by decide)
  have k17 := g 17 (by decide) (by decide)
  have ecl : ∀ i, clay T i = clay S i := fun i => clay_fr (by rw [k6]) (by rw [k7])
  refine ⟨?_, ri, ?_, ?_, ?_, ?_, ?_, tk, ?_, ?_, ?_, ?_, ?_, ?_, ?_, ?_⟩
  · exact KI_V ki (fun j _ _ => by rw [k0]) (by rw [k1]) (fun i j _ => by rw [k6]) (fun i => by rw [k7]) (fun i => by rw [k9])
  · unfold I_cnt at cnt ⊢; rw [k0, k17]; exact cnt
  · intro i hi; rw [k1, k18 0 (by decide)]; exact duty i hi
  · intro i hi; rw [k1, k18 2 (by decide)]; exact par i hi
  · intro i hi; rw [k5, k18 1 (by decide)]; exact per i hi
  · intro i hi
    have eg : grp T i = grp S i := by unfold grp; rw [k18 3 (by decide)]
    rw [k6, k18 3 (by decide), k18 4 (by decide), k18 2 (by decide), ecl, eg]; exact mach i hi
  · intro c hc; unfold I_ch1; rw [k9, k14, k18 6 (by decide), k18 7 (by decide), k18 8 (by decide), k18 9 (by decide), k18 10 (by decide), k18 11 (by decide), k18 12 (by decide)]; exact ch c hc
  · intro c h1 h2; rw [k9, k14, k18 11 (by decide), k11]; exact frs c h1 h2
  · exact giv_fr giv (fun c => by rw [k9]) (k18 13 (by decide)) (k18 14 (by decide)) k10 k11 (fun p j _ => by rw [k5])
  · intro q hq; unfold hdOk hdC; rw [k13, k14, k9]; exact heads q hq
  · intro k o hk ho; rw [k1, k18 15 (by decide)]; exact ex k o hk ho
  · exact mom_fr mom k11 (fun p j _ => by rw [k5])
  · exact st_fr st (fun c => by rw [k9]) k10 k11 (fun p j _ => by rw [k5])
  · exact rk_fr rkk (fun c => by rw [k9]) (by rw [k14]) k10 k11 (fun p j _ => by rw [k5])
theorem head_in {S : Mem} {ng nm nc t pa rk mo q : Nat} (h : INV S ng nm nc t pa rk mo) (hq : q < 132) : S 13 0 q = -1 ∨ ∃ c, c < nc ∧ S 13 0 q = nI c ∧ S 9 c 1 = nI q := by
  rw [h.2.2.2.2.2.2.2.2.2.2.2.1 q hq]
  cases hb : bestN (fun c => hdOk S c && decide (hdC S c = q)) (S 14 0) nc with
  | none => exact Or.inl rfl
  | some c =>
    obtain ⟨b1, b2⟩ := bestN_lt hb
    have b3 := of_decide_eq_true (Bool.and_eq_true_iff.mp b2).2
    obtain ⟨a, s', k', c1, c2, c3, c4, c5, c6, c7⟩ := h.2.2.2.2.2.2.2.2.1 c b1
    refine Or.inr ⟨c, b1, rfl, ?_⟩
    unfold hdC at b3
    rw [c6, ix_nI (by omega)] at b3
    rw [c6, b3]
theorem csl_inj {i s s' : Nat} (hs : s ≤ 10) (hs' : s' ≤ 10) : csl i s = csl i s' ↔ s = s' := by
  unfold csl
  by_cases h1 : s = 10 <;> by_cases h2 : s' = 10 <;> simp [h1, h2] <;> omega
/-- a layer's cells change on both sides alike -/
theorem INV_cells {S : Mem} {ng nm nc t pa rk mo i s : Nat} {f8 f5 : Nat → Int32} (h : INV S ng nm nc t pa rk mo) (hi : i < nm) (hs : s ≤ 10) (hin : csl i s ∈ clay S i) (ri : RI (uS S 18 5 f5) ng nm nc t pa)
    (h8 : ∀ q, ¬ (csl i s * 6 ≤ q ∧ q < csl i s * 6 + 6) → f8 q = S 8 i q) (h5 : ∀ q, ¬ (6 * (11 * i + s) ≤ q ∧ q < 6 * (11 * i + s) + 6) → f5 q = S 18 5 q)
    (he : ∀ k, k < 6 → f5 (6 * (11 * i + s) + k) = f8 (csl i s * 6 + k)) (hv : ∀ k, k < 6 → f8 (csl i s * 6 + k) = S 8 i (csl i s * 6 + k) ∨ f8 (csl i s * 6 + k) = S 13 0 (csl i s * 6 + k)) : INV (uS (uS S 8 i f8) 18 5 f5) ng nm nc t pa rk mo := by
  have hnm := h.1.2.1.2
  have htk := h.2.2.2.2.2.2.2.1
  have e8 : ∀ a, uS (uS S 8 i f8) 18 5 f5 8 a = if a = i then f8 else S 8 a := fun a => by
    rw [uS_n (fun z => absurd z.1 (by decide))]
    unfold uS
    by_cases ha : a = i
    · rw [if_pos ⟨rfl, ha⟩, if_pos ha]
    · rw [if_neg (fun z => ha z.2), if_neg ha]
  refine INV_tk h (fun k a h1 h2 => (uS_n h2).trans (uS_n (fun z => h1 z.1))) (RI_fr ri rfl (by funext a; unfold uS; by_cases ha : a = 5 <;> simp [ha])) ⟨fun i' hi' s' hs' k hk => ?_, fun i' hi' q hq => ?_⟩
  · rw [uS_s, e8]
    by_cases h1 : i' = i
    · subst h1
      rw [if_pos rfl]
      by_cases h2 : s' = s
      · subst h2; exact he k hk
      · have hne : csl i' s' ≠ csl i' s := fun z => h2 ((csl_inj hs' hs).mp z)
        rw [h8 _ (by omega), h5 _ (by omega)]
        exact htk.1 i' hi' s' hs' k hk
    · rw [if_neg h1, h5 _ (by omega)]
      exact htk.1 i' hi' s' hs' k hk
  · rw [e8]
    show _ ∨ (i' < nm ∧ q / 6 ∈ clay S i' ∧ _)
    by_cases h1 : i' = i
    · subst h1
      rw [if_pos rfl]
      by_cases h2 : csl i' s * 6 ≤ q ∧ q < csl i' s * 6 + 6
      · have hk : q = csl i' s * 6 + (q - csl i' s * 6) := by omega
        have hv2 := hv (q - csl i' s * 6) (by omega)
        rw [← hk] at hv2
        rcases hv2 with z | z
        · rw [z]; exact htk.2 i' hi' q hq
        · rw [z]
          rcases head_in h hq with w | ⟨c, w1, w2, w3⟩
          · exact Or.inl w
          · exact Or.inr ⟨hi, by rw [show q / 6 = csl i' s by omega]; exact hin, c, w1, w2, w3⟩
      · rw [h8 q h2]; exact htk.2 i' hi' q hq
    · rw [if_neg h1]; exact htk.2 i' hi' q hq
theorem INV_back {S : Mem} {ng nm nc t pa rk mo i j : Nat} (h : INV S ng nm nc t pa rk mo) (hi : i < nm) (hj : j < (clay S i).length) : INV (uS (uS S 8 i (cgbV S nc i ((clay S i).getD j 0) 6)) 18 5 (gbV S nc i ((lay (S 18 2) (grp S i)).getD j 0) 6)) ng nm nc t pa rk mo := by
  have hnm := h.1.2.1.2
  have htk := h.2.2.2.2.2.2.2.1
  obtain ⟨a, b⟩ := lay_at h hi hj
  have hin : (clay S i).getD j 0 ∈ clay S i := by
    rw [List.getD_eq_getElem?_getD, List.getElem?_eq_getElem hj]; exact List.getElem_mem hj
  have hri : RI (mBackAt S nc i ((lay (S 18 2) (grp S i)).getD j 0)) ng nm nc t pa := RI_backAt h.2.1 hi (by rw [← lc_len h hi]; exact hj)
  rw [a] at hin ⊢
  generalize hsd : (lay (S 18 2) (grp S i)).getD j 0 = s at a b hin hri ⊢
  have hcs := csl_lt (i := i) (s := s) (by omega) b
  refine INV_cells h hi b hin hri (fun q hq => ?_) (fun q hq => ?_) (fun k hk => ?_) (fun k hk => ?_)
  · unfold cgbV; rw [if_neg (fun z => hq ⟨z.1, z.2.1⟩)]
  · unfold gbV; rw [if_neg (fun z => hq ⟨z.1, z.2.1⟩)]
  · unfold gbV cgbV
    rw [htk.1 i (by omega) s b k hk, ← nh_eq h (tk_in h (by omega) (by omega))]
    rw [show 6 * (11 * i + s) + k - 6 * (11 * i + s) = k by omega, top_eq h (by omega) b hk]
    by_cases hn : cNh S nc (S 8 i (csl i s * 6 + k)) = true
    · rw [if_pos ⟨by omega, by omega, hn⟩, if_pos ⟨by omega, by omega, hn⟩]
    · rw [if_neg (fun z => hn z.2.2), if_neg (fun z => hn z.2.2)]
  · unfold cgbV
    by_cases hn : cNh S nc (S 8 i (csl i s * 6 + k)) = true
    · rw [if_pos ⟨by omega, by omega, hn⟩]; exact Or.inr rfl
    · rw [if_neg (fun z => hn z.2.2)]; exact Or.inl rfl
theorem INV_take {S : Mem} {ng nm nc t pa rk mo i j : Nat} (h : INV S ng nm nc t pa rk mo) (hi : i < nm) (hj : j < (clay S i).length) : INV (uS (uS S 8 i (ovl (S 8 i) ((clay S i).getD j 0 * 6) 6 (fun k => S 13 0 ((clay S i).getD j 0 * 6 + k)))) 18 5 (ovl (S 18 5) (6 * (11 * i + (lay (S 18 2) (grp S i)).getD j 0)) 6 (fun k => oI (mTop S nc i ((lay (S 18 2) (grp S i)).getD j 0) k)))) ng nm nc t pa rk mo := by
  have hnm := h.1.2.1.2
  obtain ⟨a, b⟩ := lay_at h hi hj
  have hin : (clay S i).getD j 0 ∈ clay S i := by
    rw [List.getD_eq_getElem?_getD, List.getElem?_eq_getElem hj]; exact List.getElem_mem hj
  have hri : RI (mTakeAt S nc i ((lay (S 18 2) (grp S i)).getD j 0)) ng nm nc t pa := RI_takeAt h.2.1 hi (by rw [← lc_len h hi]; exact hj)
  rw [a] at hin ⊢
  generalize hsd : (lay (S 18 2) (grp S i)).getD j 0 = s at a b hin hri ⊢
  have hcs := csl_lt (i := i) (s := s) (by omega) b
  refine INV_cells h hi b hin hri (fun q hq => ovl_out (by omega)) (fun q hq => ovl_out (by omega)) (fun k hk => ?_) (fun k hk => Or.inr (ovl_in hk))
  rw [ovl_in hk, ovl_in hk, top_eq h (by omega) b hk]
