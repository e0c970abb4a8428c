/-! approving: what it keeps -/
theorem wth_256 : ∀ v, v < 256 → ∀ p, p < 8 → ∃ w, w < 256 ∧ wthI (nI v) (nI p) true = nI w := by
  have h : ∀ v, v < 256 → ∀ p, p < 8 → (v ||| (1 <<< p)) < 256 ∧ wthI (nI v) (nI p) true = nI (v ||| (1 <<< p)) := by decide +kernel
  exact fun v hv p hp => ⟨_, (h v hv p hp).1, (h v hv p hp).2⟩
theorem INV_ap {S T : Mem} {ng nm nc t pa rk mo c p rk' : Nat} {st' r' : Int32} (h : INV S ng nm nc t pa rk mo) (hc : c < nc) (hp : p < 8) (hmo : mo + 1 < 2 ^ 20) (hserv : S 5 p 1 = 0) (hbit : cntI (S 9 c 5) (nI p) = false)
    (kk : ∀ a, a ≠ 0 → a ≠ 9 → a ≠ 10 → a ≠ 11 → a ≠ 13 → a ≠ 14 → a ≠ 17 → a ≠ 18 → a ≠ 19 → T a = S a) (k0 : ∀ j, j ≠ 10 → j ≠ 11 → T 0 0 j = S 0 0 j) (k0a : T 0 0 10 = nI rk') (k0b : T 0 0 11 = nI (mo + 1)) (k17 : ∀ j, j ≠ 0 → j ≠ 12 → T 17 0 j = S 17 0 j) (k17a : T 17 0 12 = nI rk') (hrk : rk ≤ rk' ∧ rk' ≤ mo + 1)
    (n9 : ∀ c' j, ¬ (c' = c ∧ (j = 4 ∨ j = 5)) → T 9 c' j = S 9 c' j) (v4 : T 9 c 4 = st') (v5 : T 9 c 5 = wthI (S 9 c 5) (nI p) true) (n10 : ∀ c' q, ¬ (c' = c ∧ q = p) → T 10 c' q = S 10 c' q) (v10 : T 10 c p = nI t) (n11 : ∀ c' q, ¬ (c' = c ∧ q = p) → T 11 c' q = S 11 c' q) (v11 : T 11 c p = nI (mo + 1))
    (k18 : ∀ i, i ≠ 11 → i ≠ 12 → i ≠ 13 → i ≠ 14 → T 18 i = S 18 i) (a11 : ∀ c', T 18 11 c' = if c' = c then st' else S 18 11 c') (a12 : ∀ c', T 18 12 c' = if c' = c then r' else S 18 12 c') (a13 : ∀ x, T 18 13 x = if x = 8 * c + p then nI 1 else S 18 13 x) (a14 : ∀ x, T 18 14 x = if x = 8 * c + p then nI t else S 18 14 x) (a140 : ∀ c', T 14 0 c' = if c' = c then r' else S 14 0 c')
    (h3 : S 9 c 4 ≠ nI 3) (hcase : (st' = S 9 c 4 ∧ (S 9 c 4 = nI 1 ∨ haN S c + 1 < 2) ∧ r' = S 14 0 c ∧ rk' = rk) ∨ (st' = nI 1 ∧ 2 ≤ haN S c + 1 ∧ ((S 14 0 c = -1 ∧ r' = nI rk ∧ rk' = rk + 1) ∨ (S 14 0 c ≠ -1 ∧ r' = S 14 0 c ∧ rk' = rk))))
    (hheads : I_heads T nc) : INV T ng nm nc t pa rk' (mo + 1) := by
  obtain ⟨ki, ri, cnt, duty, par, per, mach, tk, ch, frs, giv, heads, ex, mom, st, rkk⟩ := h
  have hnc := ki.2.2.1.2
  have k1 := kk 1 (by decide) (by decide) (by decide) (by decide) (by decide) (by decide) (by decide) (by decide) (by decide)
  have k5 := kk 5 (by decide) (by decide) (by decide) (by decide) (by decide) (by decide) (by decide) (by decide) (by decide)
  have k6 := kk 6 (by decide) (by decide) (by decide) (by decide) (by decide) (by decide) (by decide) (by decide) (by decide)
  have k7 := kk 7 (by decide) (by decide) (by decide) (by decide) (by decide) (by decide) (by decide) (by decide) (by decide)
  have k8 := kk 8 (by decide) (by decide) (by decide) (by decide) (by decide) (by decide) (by decide) (by decide) (by decide)
  have ecl : ∀ i, clay T i = clay S i := fun i => clay_fr (by rw [k6]) (by rw [k7])
  have eg : ∀ i, grp T i = grp S i := fun i => by unfold grp; rw [k18 3 (by decide) (by decide) (by decide) (by decide)]
  have f10 : ∀ c', c' ≠ c → T 10 c' = S 10 c' := fun c' hne => funext fun q => n10 c' q (fun z => hne z.1)
  have f11 : ∀ c', c' ≠ c → T 11 c' = S 11 c' := fun c' hne => funext fun q => n11 c' q (fun z => hne z.1)
  have n5 : ∀ q j, j ≠ 0 → T 5 q j = S 5 q j := fun q j _ => by rw [k5]
  have ehv : ∀ q x, hvB T q x = hvB S q x := fun q x => hvB_fr (by rw [k5]) (by rw [k5])
  have hvp : ∀ x, hvB S p x = false := fun x => by unfold hvB; rw [hserv, decide_eq_false (fun z => z rfl)]; rfl
  have hg := (giv c (by omega)).2
  have hold : S 11 c p = -1 := by
    have := (hg p hp).2.1
    rw [hbit, hvp, Bool.not_false, Bool.and_true] at this
    by_cases hz : S 11 c p = -1
    · exact hz
    · rw [decide_eq_true (p := S 11 c p ≠ -1) hz] at this; cases this
  have hnew : nI (mo + 1) ≠ -1 := m1_ne (by omega)
  have eN : haN T c = haN S c + 1 := by
    unfold haN
    refine cntB_one (p := p) hp (by rw [hold, decide_eq_false (p := (-1 : Int32) ≠ -1) (fun z => z rfl), Bool.false_and]) (by rw [v11, ehv, hvp, decide_eq_true hnew]; rfl) (fun q hq hne => ?_)
    rw [n11 c q (fun z => hne z.2), n10 c q (fun z => hne z.2), ehv]
  have hcg : ∀ x, x ≤ mo → cgN T c (nI x) = cgN S c (nI x) := fun x hx => by
    unfold cgN
    refine cntB_cong fun q hq => ?_
    by_cases hqp : q = p
    · subst hqp
      have hle : decide (nI (mo + 1) ≤ nI x) = false := decide_eq_false (by rw [i32_le, toInt_nI (by omega), toInt_nI (by omega)]; omega)
      rw [v11, hold, hle, Bool.and_false, Bool.false_and, decide_eq_false (p := (-1 : Int32) ≠ -1) (fun z => z rfl), Bool.false_and, Bool.false_and]
    · rw [n11 c q (fun z => hqp z.2), n10 c q (fun z => hqp z.2), ehv, k5]
  have hcn : cgN T c (nI (mo + 1)) = haN S c + 1 := by
    rw [← eN]
    unfold cgN haN
    refine cntB_cong fun q hq => ?_
    have hmq : T 11 c q = -1 ∨ ∃ x, x ≤ mo + 1 ∧ T 11 c q = nI x := by
      by_cases hqp : q = p
      · subst hqp; exact Or.inr ⟨mo + 1, Nat.le_refl _, v11⟩
      · rw [n11 c q (fun z => hqp z.2)]
        rcases mom.1 c (by omega) q hq with z | ⟨x, x1, x2, x3⟩
        · exact Or.inl z
        · exact Or.inr ⟨x, by omega, x3⟩
    rcases hmq with z | ⟨x, x1, x2⟩
    · rw [z, decide_eq_false (p := (-1 : Int32) ≠ -1) (fun w => w rfl), Bool.false_and, Bool.false_and, Bool.false_and]
    · have hle : decide (T 11 c q ≤ nI (mo + 1)) = true := decide_eq_true (by rw [x2, i32_le, toInt_nI (by omega), toInt_nI (by omega)]; omega)
      rw [hle, Bool.and_true]
      congr 1
      congr 1
      cases hh : hvB T q (T 10 c q) with
      | false => rfl
      | true =>
        have h51 : S 5 q 1 ≠ 0 := by
          rw [ehv] at hh
          exact of_decide_eq_true (Bool.and_eq_true_iff.mp hh).1
        obtain ⟨y, y1, y2⟩ := mom.2 q hq h51
        rw [Bool.true_and, k5, y2]
        exact decide_eq_true (by rw [i32_lt, toInt_nI (by omega), toInt_nI (by omega)]; omega)
  have efh : fh T c = bif decide (fh S c = -1) then (bif decide (2 ≤ haN S c + 1) then nI (mo + 1) else -1) else fh S c := fh_new (S := S) (T := T) (p := p) (by omega) (fun q hq => mom.1 c (by omega) q hq) hp (fun q hq => n11 c q (fun z => hq z.2)) v11 hold hcg hcn
  have efo : ∀ c', c' ≠ c → fh T c' = fh S c' := fun c' hne => fhF_fr (f10 c' hne) (f11 c' hne) n5 8
  obtain ⟨s1, s2⟩ := st c hc
  have hva : hvB S (ix (S 9 c 0)) (S 9 c 3) = false := by
    cases hz : hvB S (ix (S 9 c 0)) (S 9 c 3) with
    | false => rfl
    | true => exact absurd (s2 hz) h3
  have haS : haB S c = decide (2 ≤ haN S c) := by unfold haB; rw [hva]; rfl
  have haT : haB T c = decide (2 ≤ haN S c + 1) := by
    unfold haB
    rw [n9 c 0 (by omega), n9 c 3 (by omega), ehv, hva, eN]; rfl
  have hr1 : S 9 c 4 = nI 1 → 2 ≤ haN S c := fun z => by
    have := s1.mp z
    rw [haS] at this
    exact of_decide_eq_true this
  -- the new rank and moment of c
  have hnewrk : (r' = -1 ∧ fh T c = -1) ∨ (S 14 0 c ≠ -1 ∧ r' = S 14 0 c ∧ fh T c = fh S c) ∨ (r' = nI rk ∧ rk' = rk + 1 ∧ fh T c = nI (mo + 1)) := by
    rcases hcase with ⟨e1, e2, e3, e4⟩ | ⟨e1, e2, e3⟩
    · rcases rkk.1 c hc with ⟨z1, z2⟩ | ⟨r, x, y1, y2, y3, y4, y5⟩
      · refine Or.inl ⟨e3.trans z1, ?_⟩
        have : ¬ 2 ≤ haN S c + 1 := by
          rcases e2 with w | w
          · exact absurd z1 (rkk.2.2 c hc w)
          · omega
        rw [efh, z2, decide_eq_true (rfl : (-1 : Int32) = -1), cond_true, decide_eq_false this, cond_false]
      · refine Or.inr (Or.inl ⟨by rw [y4]; exact m1_ne (by have := cnt.1.2.2; have := cnt.2.2; omega), e3, ?_⟩)
        rw [efh, y5, decide_eq_false (m1_ne (n := x) (by omega)), cond_false]
    · rcases e3 with ⟨z1, z2, z3⟩ | ⟨z1, z2, z3⟩
      · refine Or.inr (Or.inr ⟨z2, z3, ?_⟩)
        rcases rkk.1 c hc with ⟨w1, w2⟩ | ⟨r, x, y1, y2, y3, y4, y5⟩
        · rw [efh, w2, decide_eq_true (rfl : (-1 : Int32) = -1), cond_true, decide_eq_true e2, cond_true]
        · rw [y4] at z1; exact absurd z1 (m1_ne (by have := cnt.1.2.2; have := cnt.2.2; omega))
      · refine Or.inr (Or.inl ⟨z1, z2, ?_⟩)
        rcases rkk.1 c hc with ⟨w1, w2⟩ | ⟨r, x, y1, y2, y3, y4, y5⟩
        · exact absurd w1 z1
        · rw [efh, y5, decide_eq_false (m1_ne (n := x) (by omega)), cond_false]
  have hrkb : rk < 2 ^ 20 := by have := cnt.1.2.2; have := cnt.2.2; omega
  refine ⟨?_, ?_, ⟨⟨k0a, k17a, hrk.2⟩, k0b, hmo⟩, ?_, ?_, ?_, ?_, ?_, ?_, ?_, ?_, hheads, ?_, ?_, ?_, ?_⟩
  · exact KI_V ki k0 (by rw [k1]) (fun i j _ => by rw [k6]) (fun i => by rw [k7]) (fun i => n9 i 1 (by omega))
  · unfold RI TK at ri ⊢
    rw [k17 4 (by decide) (by decide), k17 6 (by decide) (by decide), k17 11 (by decide) (by decide), k17 1 (by decide) (by decide), k17 7 (by decide) (by decide), k18 2 (by decide) (by decide) (by decide) (by decide), k18 3 (by decide) (by decide) (by decide) (by decide), k18 5 (by decide) (by decide) (by decide) (by decide)]
    obtain ⟨r1, r2, r3, r4, r5, r6, r7, r8, r9⟩ := ri
    exact ⟨r1, r2, r3, r4, r5, r6, r7, r8, fun m hm s hs hn k hk => r9 m hm s hs (by rw [← eg]; exact hn) k hk⟩
  · intro i hi; rw [k1, k18 0 (by decide) (by decide) (by decide) (by decide)]; exact duty i hi
  · intro i hi; rw [k1, k18 2 (by decide) (by decide) (by decide) (by decide)]; exact par i hi
  · intro i hi; rw [k5, k18 1 (by decide) (by decide) (by decide) (by decide)]; exact per i hi
  · intro i hi; rw [k6, k18 3 (by decide) (by decide) (by decide) (by decide), k18 4 (by decide) (by decide) (by decide) (by decide), k18 2 (by decide) (by decide) (by decide) (by decide), ecl, eg]; exact mach i hi
  · refine ⟨by rw [k18 5 (by decide) (by decide) (by decide) (by decide), k8]; exact tk.1, fun i hi q hq => ?_⟩
    rw [k8, ecl]
    rcases tk.2 i hi q hq with z | ⟨z1, z2, d, z3, z4, z5⟩
    · exact Or.inl z
    · exact Or.inr ⟨z1, z2, d, z3, z4, (n9 d 1 (by omega)).trans z5⟩
  · intro d hd
    obtain ⟨a, s, k, c1, c2, c3, c4, c5, c6, c7, c8, c9, c10, c11, c12, c13, c14⟩ := ch d hd
    unfold I_ch1
    rw [n9 d 0 (by omega), n9 d 1 (by omega), n9 d 2 (by omega), n9 d 3 (by omega), k18 6 (by decide) (by decide) (by decide) (by decide), k18 7 (by decide) (by decide) (by decide) (by decide), k18 8 (by decide) (by decide) (by decide) (by decide), k18 9 (by decide) (by decide) (by decide) (by decide), k18 10 (by decide) (by decide) (by decide) (by decide), a11, a12, a140]
    refine ⟨a, s, k, c1, c2, c3, c4, c5, c6, c7, c8, c9, c10, c11, c12, ?_, ?_⟩
    · by_cases hk : d = c
      · rw [if_pos hk, hk]; exact v4
      · rw [if_neg hk, n9 d 4 (by omega)]; exact c13
    · by_cases hk : d = c
      · rw [if_pos hk, if_pos hk]
      · rw [if_neg hk, if_neg hk]; exact c14
  · intro d h1 h2
    have hne : d ≠ c := by omega
    obtain ⟨d1, d2, d3, d4⟩ := frs d h1 h2
    refine ⟨(n9 d 4 (by omega)).trans d1, by rw [a11, if_neg hne]; exact d2, by rw [a140, if_neg hne]; exact d3, fun q hq => ?_⟩
    rw [f11 d hne]; exact d4 q hq
  · intro d hd
    obtain ⟨⟨v, hv, ev⟩, g2⟩ := giv d hd
    by_cases hk : d = c
    · subst hk
      refine ⟨by rw [v5, ev]; exact wth_256 v hv p hp, fun q hq => ?_⟩
      rw [v5, wth_cnt _ true (by omega) (by omega), a13, a14]
      by_cases hqp : q = p
      · subst hqp
        rw [if_pos rfl, if_pos rfl, if_pos rfl, v11, v10, ehv, hvp, decide_eq_true hnew]
        exact ⟨rfl, rfl, fun _ => rfl⟩
      · rw [if_neg hqp, if_neg (by omega), if_neg (by omega), n11 d q (fun z => hqp z.2), n10 d q (fun z => hqp z.2), ehv]
        exact g2 q hq
    · refine ⟨by rw [n9 d 5 (by omega)]; exact ⟨v, hv, ev⟩, fun q hq => ?_⟩
      rw [n9 d 5 (by omega), a13, a14, if_neg (by omega), if_neg (by omega), f10 d hk, f11 d hk, ehv]
      exact g2 q hq
  · intro k o hk ho; rw [k1, k18 15 (by decide) (by decide) (by decide) (by decide)]; exact ex k o hk ho
  · refine ⟨fun d hd q hq => ?_, fun q hq hh => ?_⟩
    · by_cases hk : d = c ∧ q = p
      · rw [hk.1, hk.2, v11]; exact Or.inr ⟨mo + 1, by omega, by omega, rfl⟩
      · rw [n11 d q hk]
        rcases mom.1 d hd q hq with z | ⟨x, x1, x2, x3⟩
        · exact Or.inl z
        · exact Or.inr ⟨x, x1, by omega, x3⟩
    · rw [k5] at hh ⊢
      obtain ⟨x, x1, x2⟩ := mom.2 q hq hh
      exact ⟨x, by omega, x2⟩
  · intro d hd
    by_cases hk : d = c
    · subst hk
      rw [haT, n9 d 0 (by omega), n9 d 3 (by omega), ehv, hva, v4]
      refine ⟨?_, fun z => (nomatch z)⟩
      rcases hcase with ⟨e1, e2, e3, e4⟩ | ⟨e1, e2, e3⟩
      · rw [e1, decide_eq_true_iff]
        constructor
        · intro z; have := hr1 z; omega
        · intro z
          rcases e2 with w | w
          · exact w
          · omega
      · rw [e1]
        exact ⟨fun _ => decide_eq_true e2, fun _ => rfl⟩
    · rw [haB_fr (S := S) (n9 d 0 (by omega)) (n9 d 3 (by omega)) (f10 d hk) (f11 d hk) n5, n9 d 0 (by omega), n9 d 3 (by omega), n9 d 4 (by omega), ehv]
      exact st d hd
  · refine ⟨fun d hd => ?_, fun d1 d2 hd1 hd2 q1 q2 => ?_, fun d hd hh => ?_⟩
    · rw [a140]
      by_cases hk : d = c
      · rw [if_pos hk, hk]
        rcases hnewrk with ⟨z1, z2⟩ | ⟨z1, z2, z3⟩ | ⟨z1, z2, z3⟩
        · exact Or.inl ⟨z1, z2⟩
        · rcases rkk.1 c hc with ⟨w1, w2⟩ | ⟨r, x, y1, y2, y3, y4, y5⟩
          · exact absurd w1 z1
          · exact Or.inr ⟨r, x, by omega, y2, by omega, z2.trans y4, z3.trans y5⟩
        · exact Or.inr ⟨rk, mo + 1, by omega, by omega, by omega, z1, z3⟩
      · rw [if_neg hk, efo d hk]
        rcases rkk.1 d hd with w | ⟨r, x, y1, y2, y3, y4, y5⟩
        · exact Or.inl w
        · exact Or.inr ⟨r, x, by omega, y2, by omega, y4, y5⟩
    · have hother : ∀ d, d < nc → d ≠ c → S 14 0 d ≠ -1 → (¬ (nI rk < S 14 0 d) ∧ ¬ (nI (mo + 1) < fh S d)) ∧ (S 14 0 d < nI rk ∧ fh S d < nI (mo + 1)) := fun d hd _ hne => by
        rcases rkk.1 d hd with ⟨w1, w2⟩ | ⟨r, x, y1, y2, y3, y4, y5⟩
        · exact absurd w1 hne
        · rw [y4, y5, i32_lt, i32_lt, i32_lt, i32_lt, toInt_nI (show rk < 2 ^ 31 by omega), toInt_nI (show r < 2 ^ 31 by omega), toInt_nI (show mo + 1 < 2 ^ 31 by omega), toInt_nI (show x < 2 ^ 31 by omega)]
          omega
      rw [a140] at q1 q2
      rw [a140, a140]
      by_cases hk1 : d1 = c <;> by_cases hk2 : d2 = c
      · rw [if_pos hk1, if_pos hk2, hk1, hk2]
        exact ⟨fun z => (Int32.lt_irrefl z).elim, fun z => (Int32.lt_irrefl z).elim⟩
      · rw [if_pos hk1] at q1
        rw [if_neg hk2] at q2
        rw [if_pos hk1, if_neg hk2, hk1, efo d2 hk2]
        rcases hnewrk with ⟨z1, z2⟩ | ⟨z1, z2, z3⟩ | ⟨z1, z2, z3⟩
        · exact absurd z1 q1
        · rw [z2, z3]; exact rkk.2.1 c d2 hc hd2 z1 q2
        · rw [z1, z3]
          have := (hother d2 hd2 hk2 q2).1
          exact ⟨fun w => absurd w this.1, fun w => absurd w this.2⟩
      · rw [if_neg hk1] at q1
        rw [if_pos hk2] at q2
        rw [if_neg hk1, if_pos hk2, hk2, efo d1 hk1]
        rcases hnewrk with ⟨z1, z2⟩ | ⟨z1, z2, z3⟩ | ⟨z1, z2, z3⟩
        · exact absurd z1 q2
        · rw [z2, z3]; exact rkk.2.1 d1 c hd1 hc q1 z1
        · rw [z1, z3]
          have := (hother d1 hd1 hk1 q1).2
          exact ⟨fun _ => this.2, fun _ => this.1⟩
      · rw [if_neg hk1] at q1
        rw [if_neg hk2] at q2
        rw [if_neg hk1, if_neg hk2, efo d1 hk1, efo d2 hk2]
        exact rkk.2.1 d1 d2 hd1 hd2 q1 q2
    · rw [a140]
      by_cases hk : d = c
      · rw [if_pos hk]
        rw [hk, v4] at hh
        rcases hnewrk with ⟨z1, z2⟩ | ⟨z1, z2, z3⟩ | ⟨z1, z2, z3⟩
        · rcases hcase with ⟨e1, e2, e3, e4⟩ | ⟨e1, e2, e3⟩
          · rw [e3]; exact rkk.2.2 c hc (by rw [← e1]; exact hh)
          · rcases e3 with ⟨w1, w2, w3⟩ | ⟨w1, w2, w3⟩
            · rw [w2]; exact m1_ne (by omega)
            · rw [w2]; exact w1
        · rw [z2]; exact z1
        · rw [z1]; exact m1_ne (by omega)
      · rw [if_neg hk]
        rw [n9 d 4 (by omega)] at hh
        exact rkk.2.2 d hd hh
