/-! leaving under suspicion: the invariant -/
theorem cntB_mono {f g : Nat → Bool} : ∀ {n : Nat}, (∀ k, k < n → f k = true → g k = true) → cntB f n ≤ cntB g n
  | 0, _ => Nat.le_refl 0
  | n + 1, h => by
    have ih := cntB_mono (n := n) (fun k hk => h k (by omega))
    unfold cntB
    have hn := h n (Nat.lt_succ_self n)
    cases hf : f n with
    | false => cases hg : g n <;> simp <;> omega
    | true => rw [hn hf]; simp; omega
theorem INV_lv {S T : Mem} {ng nm nc t pa rk mo p : Nat} (h : INV S ng nm nc t pa rk mo) (hp : p < 8) (hmo : mo + 1 < 2 ^ 20) (hserv : S 5 p 0 ≠ 0)
    (kk : ∀ a, a ≠ 0 → a ≠ 5 → a ≠ 6 → a ≠ 9 → a ≠ 13 → a ≠ 17 → a ≠ 18 → a ≠ 19 → T a = S a) (k0 : ∀ j, j ≠ 11 → T 0 0 j = S 0 0 j) (k0b : T 0 0 11 = nI (mo + 1)) (k17 : ∀ j, j ≠ 0 → T 17 0 j = S 17 0 j)
    (n5 : ∀ q j, q ≠ p → T 5 q j = S 5 q j) (v50 : T 5 p 0 = 0) (v51 : T 5 p 1 = nI 1) (v52 : T 5 p 2 = nI t) (v53 : T 5 p 3 = nI (mo + 1)) (a1 : ∀ q, T 18 1 q = if q = p then nI 2 else S 18 1 q)
    (n6 : ∀ i j, j ≠ 2 → T 6 i j = S 6 i j) (v6 : ∀ i, i < 12 → T 6 i 2 = T 18 4 i)
    (n9 : ∀ c j, (j ≠ 4 ∧ j ≠ 5) ∨ nc ≤ c → T 9 c j = S 9 c j) (v4 : ∀ c, c < nc → T 9 c 4 = lS4 S c p (nI t)) (v5 : ∀ c, c < nc → T 9 c 5 = lB5 S c p (nI t))
    (k18 : ∀ i, i ≠ 1 → i ≠ 4 → i ≠ 11 → i ≠ 13 → T 18 i = S 18 i) (a11 : ∀ c, c < nc → T 18 11 c = rS4 S p c) (a11n : ∀ c, nc ≤ c → T 18 11 c = S 18 11 c) (a13 : ∀ c q, q < 8 → (nc ≤ c ∨ q ≠ p) → T 18 13 (8 * c + q) = S 18 13 (8 * c + q)) (a13p : ∀ c, c < nc → T 18 13 (8 * c + p) = rG5 S p c)
    (hheads : I_heads T nc) : INV T ng nm nc t pa rk (mo + 1) := by
  obtain ⟨ki, ri, cnt, duty, par, per, mach, tk, ch, frs, giv, heads, ex, mom, st, rkk⟩ := h
  have hnc := ki.2.2.1.2
  have et : S 17 0 1 = nI t := ri.2.2.2.1.1
  have k1 := kk 1 (by decide) (by decide) (by decide) (by decide) (by decide) (by decide) (by decide) (by decide)
  have k7 := kk 7 (by decide) (by decide) (by decide) (by decide) (by decide) (by decide) (by decide) (by decide)
  have k8 := kk 8 (by decide) (by decide) (by decide) (by decide) (by decide) (by decide) (by decide) (by decide)
  have k10 := kk 10 (by decide) (by decide) (by decide) (by decide) (by decide) (by decide) (by decide) (by decide)
  have k11 := kk 11 (by decide) (by decide) (by decide) (by decide) (by decide) (by decide) (by decide) (by decide)
  have k14 := kk 14 (by decide) (by decide) (by decide) (by decide) (by decide) (by decide) (by decide) (by decide)
  have ecl : ∀ i, clay T i = clay S i := fun i => clay_V (n6 i 3 (by decide)) (by rw [k7])
  have e183 := k18 3 (by decide) (by decide) (by decide) (by decide)
  have eg : ∀ i, grp T i = grp S i := fun i => by unfold grp; rw [e183]
  have h51 : S 5 p 1 = 0 := by
    rcases per p hp with ⟨b1, b2, b3⟩ | ⟨b1, b2, b3⟩ | ⟨b1, b2, b3⟩
    · exact b2
    · exact b2
    · exact absurd b1 hserv
  have hvS : ∀ x, hvB S p x = false := fun x => by unfold hvB; rw [h51, decide_eq_false (fun z => z rfl)]; rfl
  have hvT : ∀ x, hvB T p x = decide (nI t - x < nI 30) := hvB_lv v51 v52
  have hvo : ∀ q x, q ≠ p → hvB T q x = hvB S q x := fun q x hq => hvB_fr (n5 q 1 hq) (n5 q 2 hq)
  -- bits of a change behind the leaving
  have hbits : ∀ c, c < nc → (∃ w, w < 256 ∧ T 9 c 5 = nI w) ∧ ∀ q, q < 8 → cntI (T 9 c 5) (nI q) = (decide (S 11 c q ≠ -1) && !hvB T q (S 10 c q)) := fun c hc => by
    obtain ⟨l1, l2⟩ := lv_bits (c := c) (t := t) (giv c (by omega)) hp h51
    rw [v5 c hc]
    refine ⟨l1, fun q hq => ?_⟩
    rw [l2 q hq]
    by_cases hqp : q = p
    · rw [if_pos hqp, hqp, hvT]
    · rw [if_neg hqp, hvo q _ hqp]
      exact ((giv c (by omega)).2 q hq).2.1
  have hhaN : ∀ c, c < nc → bcF (T 9 c 5) = nI (haN T c) := fun c hc => by
    obtain ⟨l1, l2⟩ := hbits c hc
    refine bc_cnt _ l1 (fun q hq => ?_)
    rw [l2 q hq, k11, k10]
  have hrgn : ∀ c, c < nc → rGN S p c = haN T c := fun c hc => by
    unfold rGN haN
    refine cntB_cong fun q hq => ?_
    rw [k11, k10]
    by_cases hqp : q = p
    · rw [if_pos hqp, hqp, lv_given (giv c (by omega)) hp h51 et, hvT]
    · rw [if_neg hqp, hvo q _ hqp, ← ((giv c (by omega)).2 q hq).1]
      exact ((giv c (by omega)).2 q hq).2.1
  have hs4 : ∀ c, c < nc → ∃ a, a < 8 ∧ S 9 c 0 = nI a ∧ T 9 c 4 = rS4 S p c ∧ T 9 c 4 = (bif decide (nI a = nI p) && decide (nI t - S 9 c 3 < nI 30) then nI 3 else bif decide (S 9 c 4 = nI 1) && decide (haN T c < 2) then nI 2 else S 9 c 4) := fun c hc => by
    obtain ⟨a, s, k, c1, c2, c3, c4, c5, c6, c7, c8, c9, c10, c11, c12, c13, c14⟩ := ch c hc
    have h8 : haN T c ≤ 8 := cntB_le _ 8
    have e1 : T 9 c 4 = (bif decide (nI a = nI p) && decide (nI t - S 9 c 3 < nI 30) then nI 3 else bif decide (S 9 c 4 = nI 1) && decide (haN T c < 2) then nI 2 else S 9 c 4) := by
      rw [v4 c hc]
      unfold lS4
      have e2 : decide (bcF (lB5 S c p (nI t)) < nI 2) = decide (haN T c < 2) := by
        rw [← v5 c hc, hhaN c hc]
        exact decide_eq_decide.mpr (by rw [i32_lt, toInt_nI (by omega), toInt_nI (by omega)]; omega)
      rw [e2, c4]
    refine ⟨a, c1, c4, ?_, e1⟩
    rw [e1]
    unfold rS4
    rw [et, hrgn c hc, c5, ← c12, ← c13]
  have hmono : ∀ c, c < nc → haN T c ≤ haN S c := fun c hc => by
    unfold haN
    refine cntB_mono fun q hq => ?_
    rw [k11, k10]
    by_cases hqp : q = p
    · rw [hqp, hvS]
      intro z
      rw [(Bool.and_eq_true_iff.mp z).1]; rfl
    · rw [hvo q _ hqp]; exact fun z => z
  have hnch : ∀ c q, nc ≤ c → c < 40 → q < 8 → S 11 c q = -1 := fun c q h1 h2 hq => (frs c h1 h2).2.2.2 q hq
  have efh : ∀ c, c < 40 → fh T c = fh S c := fun c hc => by
    have : ∀ n, n ≤ 8 → fhF T c n = fhF S c n := by
      intro n
      induction n with
      | zero => intro _; rfl
      | succ n ih =>
        intro hn
        unfold fhF
        rw [ih (by omega), k11]
        rcases mom.1 c hc n (by omega) with z | ⟨x, x1, x2, x3⟩
        · rw [z, decide_eq_false (p := (-1 : Int32) ≠ -1) (fun w => w rfl), Bool.false_and, Bool.false_and, Bool.false_and]
        · have ecg : cgN T c (S 11 c n) = cgN S c (S 11 c n) := by
            unfold cgN
            refine cntB_cong fun q hq => ?_
            rw [k11, k10]
            by_cases hqp : q = p
            · rw [hqp, hvS, v53, x3]
              have hlt : decide (nI (mo + 1) < nI x) = false := decide_eq_false (by rw [i32_lt, toInt_nI (by omega), toInt_nI (by omega)]; omega)
              rw [hlt, Bool.and_false, Bool.false_and]
            · rw [hvo q _ hqp, n5 q 3 hqp]
          rw [ecg]
    exact this 8 (Nat.le_refl 8)
  have hstc : ∀ c, c < nc → (T 9 c 4 = nI 1 ↔ haB T c = true) ∧ (hvB T (ix (T 9 c 0)) (T 9 c 3) = true → T 9 c 4 = nI 3) ∧ (T 9 c 4 = nI 1 → S 9 c 4 = nI 1) := fun c hc => by
    obtain ⟨a, b1, b2, b3, b4⟩ := hs4 c hc
    obtain ⟨s1, s2⟩ := st c hc
    have ia : ix (nI a) = a := ix_nI (by omega)
    have hm := hmono c hc
    rw [b2, ia] at s2
    have hbS : haB S c = bif hvB S a (S 9 c 3) then false else decide (2 ≤ haN S c) := by unfold haB; rw [b2, ia]
    have hbT : haB T c = bif hvB T a (S 9 c 3) then false else decide (2 ≤ haN T c) := by unfold haB; rw [n9 c 0 (Or.inl (by omega)), n9 c 3 (Or.inl (by omega)), b2, ia]
    rw [n9 c 0 (Or.inl (by omega)), n9 c 3 (Or.inl (by omega)), b2, ia]
    have hsub : ∀ X : Int32, X = (bif decide (S 9 c 4 = nI 1) && decide (haN T c < 2) then nI 2 else S 9 c 4) → hvB T a (S 9 c 3) = false → hvB S a (S 9 c 3) = false → (X = nI 1 ↔ haB T c = true) ∧ (X = nI 1 → S 9 c 4 = nI 1) := fun X hX hv hvS2 => by
      rw [hbT, hv, cond_false, decide_eq_true_iff]
      rw [hbS, hvS2, cond_false, decide_eq_true_iff] at s1
      by_cases h1 : S 9 c 4 = nI 1
      · rw [decide_eq_true h1, Bool.true_and] at hX
        by_cases h2 : haN T c < 2
        · rw [decide_eq_true h2, cond_true] at hX
          rw [hX]
          exact ⟨⟨fun z => absurd z (by decide), fun z => by omega⟩, fun _ => h1⟩
        · rw [decide_eq_false h2, cond_false] at hX
          rw [hX]
          exact ⟨⟨fun _ => by omega, fun _ => h1⟩, fun _ => h1⟩
      · rw [decide_eq_false h1, Bool.false_and, cond_false] at hX
        rw [hX]
        have h2 : ¬ 2 ≤ haN S c := fun z => h1 (s1.mpr z)
        exact ⟨⟨fun z => absurd z h1, fun z => by omega⟩, fun z => z⟩
    by_cases hap : a = p
    · subst hap
      rw [hvT] at hbT ⊢
      rw [b4, decide_eq_true rfl, Bool.true_and]
      cases hd : decide (nI t - S 9 c 3 < nI 30) with
      | true =>
        rw [hbT, hd, cond_true, cond_true]
        exact ⟨⟨fun z => absurd z (by decide), fun z => (nomatch z)⟩, fun _ => rfl, fun z => absurd z (by decide)⟩
      | false =>
        rw [cond_false]
        obtain ⟨q1, q2⟩ := hsub _ rfl ((hvT _).trans hd) (hvS _)
        exact ⟨q1, fun z => (nomatch z), q2⟩
    · rw [hvo a _ hap]
      rw [b4, decide_eq_false (fun z => hap ((nI_eq (by omega) (by omega)).mp z)), Bool.false_and, cond_false]
      cases hv : hvB S a (S 9 c 3) with
      | true =>
        have h4 := s2 hv
        rw [hbT, hvo a _ hap, hv, cond_true, h4, decide_eq_false (show ¬ nI 3 = nI 1 by decide), Bool.false_and, cond_false]
        exact ⟨⟨fun z => absurd z (by decide), fun z => (nomatch z)⟩, fun _ => rfl, fun z => absurd z (by decide)⟩
      | false =>
        obtain ⟨q1, q2⟩ := hsub _ rfl ((hvo a _ hap).trans hv) hv
        exact ⟨q1, fun z => (nomatch z), q2⟩
  refine ⟨?_, ?_, ⟨⟨by rw [k0 10 (by decide)]; exact cnt.1.1, by rw [k17 12 (by decide)]; exact cnt.1.2.1, by have := cnt.1.2.2; omega⟩, k0b, hmo⟩, ?_, ?_, ?_, ?_, ?_, ?_, ?_, ?_, hheads, ?_, ?_, ?_, ?_⟩
  · exact KI_V ki (fun j _ j11 => k0 j j11) (by rw [k1]) (fun i j hj => n6 i j hj) (fun i => by rw [k7]) (fun i => n9 i 1 (Or.inl (by omega)))
  · unfold RI TK at ri ⊢
    rw [k17 4 (by decide), k17 6 (by decide), k17 11 (by decide), k17 1 (by decide), k17 7 (by decide), k18 2 (by decide) (by decide) (by decide) (by decide), e183, k18 5 (by decide) (by decide) (by decide) (by decide)]
    obtain ⟨r1, r2, r3, r4, r5, r6, r7, r8, r9⟩ := ri
    exact ⟨r1, r2, r3, r4, r5, r6, r7, r8, fun m hm s hs hn k hk => r9 m hm s hs (by rw [← eg]; exact hn) k hk⟩
  · intro i hi; rw [k1, k18 0 (by decide) (by decide) (by decide) (by decide)]; exact duty i hi
  · intro i hi; rw [k1, k18 2 (by decide) (by decide) (by decide) (by decide)]; exact par i hi
  · intro q hq
    rw [a1]
    by_cases hqp : q = p
    · rw [if_pos hqp, hqp]; exact Or.inr (Or.inr ⟨v50, v51, rfl⟩)
    · rw [if_neg hqp, n5 q 0 hqp, n5 q 1 hqp]; exact per q hq
  · intro i hi
    refine ⟨fun hi2 => ?_, v6 i hi⟩
    rw [n6 i 1 (by decide), e183, k18 2 (by decide) (by decide) (by decide) (by decide), ecl, eg]
    exact (mach i hi).1 hi2
  · refine ⟨by rw [k18 5 (by decide) (by decide) (by decide) (by decide), k8]; exact tk.1, fun i hi q hq => ?_⟩
    rw [k8, ecl]
    rcases tk.2 i hi q hq with z | ⟨z1, z2, d, z3, z4, z5⟩
    · exact Or.inl z
    · exact Or.inr ⟨z1, z2, d, z3, z4, (n9 d 1 (Or.inl (by omega))).trans z5⟩
  · intro d hd
    obtain ⟨a, s, k, c1, c2, c3, c4, c5, c6, c7, c8, c9, c10, c11, c12, c13, c14⟩ := ch d hd
    obtain ⟨a', b1, b2, b3, b4⟩ := hs4 d hd
    unfold I_ch1
    rw [n9 d 0 (Or.inl (by omega)), n9 d 1 (Or.inl (by omega)), n9 d 2 (Or.inl (by omega)), n9 d 3 (Or.inl (by omega)), k18 6 (by decide) (by decide) (by decide) (by decide), k18 7 (by decide) (by decide) (by decide) (by decide), k18 8 (by decide) (by decide) (by decide) (by decide), k18 9 (by decide) (by decide) (by decide) (by decide), k18 10 (by decide) (by decide) (by decide) (by decide), k18 12 (by decide) (by decide) (by decide) (by decide), a11 d hd, k14]
    exact ⟨a, s, k, c1, c2, c3, c4, c5, c6, c7, c8, c9, c10, c11, c12, b3, c14⟩
  · intro d h1 h2
    rw [n9 d 4 (Or.inr h1), a11n d h1, k14, k11]
    exact frs d h1 h2
  · intro d hd
    obtain ⟨g1, g2⟩ := giv d hd
    rcases Nat.lt_or_ge d nc with hlt | hge
    · obtain ⟨l1, l2⟩ := hbits d hlt
      refine ⟨l1, fun q hq => ?_⟩
      rw [l2 q hq, k10, k11]
      refine ⟨?_, rfl, fun z => by rw [k18 14 (by decide) (by decide) (by decide) (by decide)]; exact (g2 q hq).2.2 z⟩
      by_cases hqp : q = p
      · rw [hqp, a13p d hlt, lv_given (giv d (by omega)) hp h51 et, hvT]
      · rw [a13 d q hq (Or.inr hqp), hvo q _ hqp, ← (g2 q hq).1]
        exact (g2 q hq).2.1.symm
    · refine ⟨by rw [n9 d 5 (Or.inr hge)]; exact g1, fun q hq => ?_⟩
      have h11 := hnch d q hge hd hq
      rw [n9 d 5 (Or.inr hge), a13 d q hq (Or.inl hge), k11, h11, decide_eq_false (p := (-1 : Int32) ≠ -1) (fun z => z rfl), Bool.false_and]
      refine ⟨(g2 q hq).1, ?_, fun z => absurd rfl z⟩
      have := (g2 q hq).2.1
      rw [h11, decide_eq_false (p := (-1 : Int32) ≠ -1) (fun z => z rfl), Bool.false_and] at this
      exact this
  · intro k o hk ho; rw [k1, k18 15 (by decide) (by decide) (by decide) (by decide)]; exact ex k o hk ho
  · refine ⟨fun d hd q hq => ?_, fun q hq hh => ?_⟩
    · rw [k11]
      rcases mom.1 d hd q hq with z | ⟨x, x1, x2, x3⟩
      · exact Or.inl z
      · exact Or.inr ⟨x, x1, by omega, x3⟩
    · by_cases hqp : q = p
      · rw [hqp]; exact ⟨mo + 1, Nat.le_refl _, v53⟩
      · rw [n5 q 1 hqp] at hh
        rw [n5 q 3 hqp]
        obtain ⟨x, x1, x2⟩ := mom.2 q hq hh
        exact ⟨x, by omega, x2⟩
  · exact fun c hc => ⟨(hstc c hc).1, (hstc c hc).2.1⟩
  · refine ⟨fun c hc => ?_, fun c d hc hd => ?_, fun c hc hh => ?_⟩
    · rw [efh c (by omega), k14]
      rcases rkk.1 c hc with w | ⟨r, x, y1, y2, y3, y4, y5⟩
      · exact Or.inl w
      · exact Or.inr ⟨r, x, y1, y2, by omega, y4, y5⟩
    · rw [efh c (by omega), efh d (by omega), k14]; exact rkk.2.1 c d hc hd
    · rw [k14]; exact rkk.2.2 c hc ((hstc c hc).2.2 hh)
