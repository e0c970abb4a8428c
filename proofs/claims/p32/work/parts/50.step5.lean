/-! proposing -/
theorem bestN_no {ok : Nat → Bool} {rk : Nat → Int32} {n : Nat} (h : ok n = false) : bestN ok rk (n + 1) = bestN ok rk n := by
  show bstep ok rk n (bestN ok rk n) = _
  unfold bstep
  rw [h, Bool.false_and, cond_false]
theorem step_i {ng nm nc t t' pa rk mo mo' : Nat} {v v1 : Int32} {T2 : Mem} (h0 : T2 17 0 0 = nI 0) (hv : v = v1) (hI : INV T2 ng nm nc t' pa rk mo') (ht : t' ≤ t + 60) (hm : mo' ≤ mo + 1) : STEP 0 v t mo (v1, T2) := ⟨h0, fun _ => hv, ng, nm, nc, t', pa, rk, mo', hI, ht, hm⟩
theorem fh_none {S : Mem} {c : Nat} (h : ∀ p, p < 8 → S 11 c p = -1) : fh S c = -1 := by
  have : ∀ n, n ≤ 8 → fhF S c n = -1 := by
    intro n
    induction n with
    | zero => intro _; rfl
    | succ n ih =>
      intro hn
      unfold fhF
      rw [h n (by omega), ih (by omega)]; rfl
  exact this 8 (Nat.le_refl 8)
theorem haN_none {S : Mem} {c : Nat} (h : ∀ p, p < 8 → S 11 c p = -1) : haN S c = 0 := by
  unfold haN
  have : ∀ (f : Nat → Bool) (n : Nat), (∀ k, k < n → f k = false) → cntB f n = 0 := by
    intro f n
    induction n with
    | zero => intro _; rfl
    | succ n ih => intro hf; unfold cntB; rw [ih (fun k hk => hf k (by omega)), hf n (by omega)]; rfl
  exact this _ 8 (fun p hp => by rw [h p hp]; rfl)
theorem step_propose {S : Mem} {ng nm nc t pa rk mo : Nat} (h : INV S ng nm nc t pa rk mo) (x y z w : Int32) : STEP (prC S x y z w ng nm nc) (nI nc) t mo (rPropose (uM (TT S (prC S x y z w ng nm nc) (uM (prM S nc x (nI (ix (slF y ng nm) * 6 + ix z)) w) 19 0 0 (nI nc))) 17 0 0 (nI 0)) x y z w ng nm nc) := by
  have hnm := h.1.2.1.2
  have hng := h.1.1.2.2
  have hnc := h.1.2.2.1.2
  unfold rPropose
  rw [inR_rg 101 (by omega)]
  cases h1 : rgB x 8 with
  | false =>
    have e : prC S x y z w ng nm nc = 1 := by unfold prC; rw [h1]; rfl
    rw [e]
    exact step_f h (by decide) uM_uM
  | true =>
    rcases slF_spec (x := y) hng hnm with ⟨e1, e2⟩ | ⟨s, hs, e1, e2, e3, e4⟩
    · have e : prC S x y z w ng nm nc = 1 := by unfold prC; rw [h1, e1]; rfl
      rw [e, e2]
      exact step_f h (by decide) uM_uM
    · rw [e4]
      have hne : decide (slF y ng nm ≠ -1) = true := decide_eq_true (by rw [e1]; exact m1_ne (by omega))
      cases h3 : rgB z 6 with
      | false =>
        have e : prC S x y z w ng nm nc = 1 := by unfold prC; rw [h1, hne, h3]; rfl
        rw [e]
        exact step_f h (by decide) uM_uM
      | true =>
        cases h4 : rgB w (101 + 1) with
        | false =>
          have e : prC S x y z w ng nm nc = 2 := by unfold prC; rw [h1, hne, h3, show rgB w 102 = false from h4]; rfl
          rw [e]
          exact step_f h (by decide) uM_uM
        | true =>
          obtain ⟨p, hp, rfl⟩ := rgB_t h1
          obtain ⟨k, hk, rfl⟩ := rgB_t h3
          have ip : ix (nI p) = p := ix_nI (by omega)
          have ik : ix (nI k) = k := ix_nI (by omega)
          have is_ : ix (slF y ng nm) = s := by rw [e1]; exact ix_nI (by omega)
          rw [ip, ik, is_]
          have h0 := h
          obtain ⟨ki, ri, cnt, duty, par, per, mach, tk, ch, frs, giv, heads, ex, mom, st, rkk⟩ := h
          have hgone : decide (0 < S 18 1 p) = decide (S 5 p 0 = 0) := by
            rcases per p hp with ⟨a1, a2, a3⟩ | ⟨a1, a2, a3⟩ | ⟨a1, a2, a3⟩ <;> rw [a1, a3] <;> decide
          have e : prC S (nI p) y (nI k) w ng nm nc = bif decide (S 5 p 0 = 0) || decide (40 ≤ nc) then 3 else 0 := by
            unfold prC
            rw [h1, hne, h3, show rgB w 102 = true from h4, ip]; rfl
          rw [e]
          cases hd : decide (S 5 p 0 = 0) with
          | true =>
            rw [Bool.true_or, cond_true]
            show STEP 3 _ t mo (bif decide (0 < S 18 1 p) then fl (uM S 17 0 0 (nI 0)) 3 else _)
            rw [hgone, hd, cond_true]
            exact step_f h0 (by decide) uM_uM
          | false =>
            rw [Bool.false_or]
            by_cases h40 : nc = 40
            · rw [decide_eq_true (show 40 ≤ nc by omega), cond_true]
              show STEP 3 _ t mo (bif decide (0 < S 18 1 p) then _ else bif decide (nc = 40) then fl (uM S 17 0 0 (nI 0)) 3 else _)
              rw [hgone, hd, decide_eq_true h40, cond_false, cond_true]
              exact step_f h0 (by decide) uM_uM
            · rw [decide_eq_false (show ¬ 40 ≤ nc by omega), cond_false]
              obtain ⟨T2, hT2⟩ : ∃ T2, T2 = uM (uM (uM (uM (uM (uM (uM (uM (uM (prM S nc (nI p) (nI (s * 6 + k)) w) 19 0 0 (nI nc)) 17 0 0 (nI 0)) 18 6 nc (nI p)) 18 7 nc y) 18 8 nc (nI k)) 18 9 nc (S 17 0 1)) 18 10 nc w) 18 12 nc (-1)) 17 0 11 (nI (nc + 1)) := ⟨_, rfl⟩
              show STEP 0 _ t mo (bif decide (0 < S 18 1 p) then _ else bif decide (nc = 40) then _ else (nI nc, uM (uM (uM (uM (uM (uM (uM (uM (uM (prM S nc (nI p) (nI (s * 6 + k)) w) 19 0 0 (nI nc)) 17 0 0 (nI 0)) 18 6 nc (nI p)) 18 7 nc y) 18 8 nc (nI k)) 18 9 nc (S 17 0 1)) 18 10 nc w) 18 12 nc (-1)) 17 0 11 (nI (nc + 1))))
              rw [hgone, hd, decide_eq_false h40, cond_false, cond_false, ← hT2]
              have g9 : ∀ c j, T2 9 c j = prM S nc (nI p) (nI (s * 6 + k)) w 9 c j := fun c j => by rw [hT2]; rfl
              have n9 : ∀ c j, (c ≠ nc ∨ 4 ≤ j) → T2 9 c j = S 9 c j := by
                intro c j hh
                rw [g9]
                unfold prM
                rw [uM_n (fun z => by omega), uM_n (fun z => by omega), uM_n (fun z => by omega), uM_n (fun z => by omega), uM_n (fun z => by omega)]
              have v0 : T2 9 nc 0 = nI p := by
                rw [g9]; unfold prM
                rw [uM_n (fun z => by omega), uM_n (fun z => by omega), uM_n (fun z => by omega), uM_n (fun z => by omega), uM_s]
              have v1 : T2 9 nc 1 = nI (s * 6 + k) := by
                rw [g9]; unfold prM
                rw [uM_n (fun z => by omega), uM_n (fun z => by omega), uM_n (fun z => by omega), uM_s]
              have v2 : T2 9 nc 2 = w := by
                rw [g9]; unfold prM
                rw [uM_n (fun z => by omega), uM_n (fun z => by omega), uM_s]
              have v3 : T2 9 nc 3 = S 0 0 0 := by
                rw [g9]; unfold prM
                rw [uM_n (fun z => by omega), uM_s]
              have a6 : T2 18 6 = upd (S 18 6) nc (nI p) := by rw [hT2]; rfl
              have a7 : T2 18 7 = upd (S 18 7) nc y := by rw [hT2]; rfl
              have a8 : T2 18 8 = upd (S 18 8) nc (nI k) := by rw [hT2]; rfl
              have a9 : T2 18 9 = upd (S 18 9) nc (S 17 0 1) := by rw [hT2]; rfl
              have a10 : T2 18 10 = upd (S 18 10) nc w := by rw [hT2]; rfl
              have a12 : T2 18 12 = upd (S 18 12) nc (-1) := by rw [hT2]; rfl
              have a11 : T2 18 11 = S 18 11 := by rw [hT2]; rfl
              have f14 : T2 14 = S 14 := by rw [hT2]; rfl
              have f10 : T2 10 = S 10 := by rw [hT2]; rfl
              have f11 : T2 11 = S 11 := by rw [hT2]; rfl
              have f5 : T2 5 = S 5 := by rw [hT2]; rfl
              have n5 : ∀ q j, j ≠ 0 → T2 5 q j = S 5 q j := fun q j _ => by rw [f5]
              have us : ∀ (f : Nat → Int32) (v : Int32), upd f nc v nc = v := fun f v => if_pos rfl
              have un : ∀ (f : Nat → Int32) (v : Int32) (c : Nat), c ≠ nc → upd f nc v c = f c := fun f v c hc => if_neg hc
              obtain ⟨d1, d2, d3, d4⟩ := frs nc (Nat.le_refl nc) (by omega)
              have et : S 0 0 0 = S 17 0 1 := ki.2.2.2.1.1.trans ri.2.2.2.1.1.symm
              have hp1 : S 5 p 1 = 0 := by
                have hz := of_decide_eq_false hd
                rcases per p hp with ⟨b1, b2, b3⟩ | ⟨b1, b2, b3⟩ | ⟨b1, b2, b3⟩
                · exact b2
                · exact b2
                · exact absurd b1 hz
              have hhv : ∀ v, hvB T2 p v = false := fun v => by
                rw [hvB_fr (S := S) (by rw [f5]) (by rw [f5])]
                unfold hvB; rw [hp1]; rfl
              have hk2 : ix (nI p) = p := ip
              refine step_i (ng := ng) (nm := nm) (nc := nc + 1) (t' := t) (pa := pa) (rk := rk) (mo' := mo) (by rw [hT2]; rfl) rfl ⟨?_, ?_, ?_, ?_, ?_, ?_, ?_, ?_, ?_, ?_, ?_, ?_, ?_, ?_, ?_, ?_⟩ (by omega) (by omega)
              · obtain ⟨b1, b2, b3, b4, b5, b6, b7, b8, b9⟩ := ki
                refine ⟨by rw [hT2]; exact b1, by rw [hT2]; exact b2, ⟨by rw [hT2]; rfl, by omega⟩, by rw [hT2]; exact b4, by rw [hT2]; exact b5, by rw [hT2]; exact b6, by rw [hT2]; exact b7, fun c hc => ?_, by rw [hT2]; exact b9⟩
                by_cases hcn : c = nc
                · subst hcn; exact ⟨s * 6 + k, by omega, v1⟩
                · rw [n9 c 1 (Or.inl hcn)]; exact b8 c (by omega)
              · obtain ⟨b1, b2, b3, b4, b5⟩ := ri
                exact ⟨by rw [hT2]; exact b1, by rw [hT2]; exact b2, ⟨by rw [hT2]; rfl, by omega⟩, by rw [hT2]; exact b4, by rw [hT2]; exact b5⟩
              · rw [hT2]; exact cnt
              · rw [hT2]; exact duty
              · rw [hT2]; exact par
              · rw [hT2]; exact per
              · rw [hT2]; exact mach
              · refine ⟨by rw [hT2]; exact tk.1, fun i hi q hq => ?_⟩
                have e8 : T2 8 = S 8 := by rw [hT2]; rfl
                have ecl : clay T2 i = clay S i := by rw [hT2]; rfl
                rw [e8, ecl]
                rcases tk.2 i hi q hq with b | ⟨b1, b2, c, b3, b4, b5⟩
                · exact Or.inl b
                · exact Or.inr ⟨b1, b2, c, by omega, b4, (n9 c 1 (Or.inl (by omega))).trans b5⟩
              · intro c hc
                unfold I_ch1
                rw [a6, a7, a8, a9, a10, a12, a11, f14]
                by_cases hcn : c = nc
                · subst hcn
                  rw [us, us, us, us, us, us, v0, v1, v2, v3, n9 c 4 (Or.inr (by omega))]
                  exact ⟨p, s, k, hp, hs, hk, rfl, rfl, rfl, e2, rfl, e3, rfl, h4, et, d1.trans d2.symm, d3⟩
                · rw [un _ _ c hcn, un _ _ c hcn, un _ _ c hcn, un _ _ c hcn, un _ _ c hcn, un _ _ c hcn, n9 c 0 (Or.inl hcn), n9 c 1 (Or.inl hcn), n9 c 2 (Or.inl hcn), n9 c 3 (Or.inl hcn), n9 c 4 (Or.inl hcn)]
                  exact ch c (by omega)
              · intro c hc1 hc2
                rw [n9 c 4 (Or.inl (by omega)), a11, f14, f11]
                exact frs c (by omega) hc2
              · exact giv_fr giv (fun c => n9 c 5 (Or.inr (by omega))) (by rw [hT2]; rfl) (by rw [hT2]; rfl) f10 f11 n5
              · intro q hq
                have e13 : T2 13 = S 13 := by rw [hT2]; rfl
                have hok : hdOk T2 nc = false := by unfold hdOk; rw [n9 nc 4 (Or.inr (by omega)), d1]; decide
                rw [e13, heads q hq, f14]
                refine congrArg oI ((bestN_cong (fun c hc => ?_) (fun c _ => rfl)).trans (bestN_no (by rw [hok, Bool.false_and])).symm)
                unfold hdOk hdC
                rw [n9 c 4 (Or.inl (by omega)), n9 c 1 (Or.inl (by omega))]
              · rw [hT2]; exact ex
              · exact mom_fr mom f11 n5
              · intro c hc
                by_cases hcn : c = nc
                · subst hcn
                  rw [v0, ip, hhv, n9 c 4 (Or.inr (by omega)), d1]
                  have hb : haB T2 c = false := by
                    unfold haB
                    rw [v0, ip, hhv, haN_none (by rw [f11]; exact d4)]; rfl
                  rw [hb]
                  exact ⟨⟨fun z => absurd z (by decide), fun z => (nomatch z)⟩, fun z => (nomatch z)⟩
                · rw [haB_fr (S := S) (n9 c 0 (Or.inl hcn)) (n9 c 3 (Or.inl hcn)) (by rw [f10]) (by rw [f11]) n5, n9 c 0 (Or.inl hcn), n9 c 3 (Or.inl hcn), n9 c 4 (Or.inl hcn), hvB_fr (S := S) (by rw [f5]) (by rw [f5])]
                  exact st c (by omega)
              · have efh : ∀ c, fh T2 c = fh S c := fun c => fhF_fr (by rw [f10]) (by rw [f11]) n5 8
                have hfn : fh S nc = -1 := fh_none d4
                refine ⟨fun c hc => ?_, fun c d hc hd h1 h2 => ?_, fun c hc hh => ?_⟩
                · rw [efh, f14]
                  by_cases hcn : c = nc
                  · subst hcn; exact Or.inl ⟨d3, hfn⟩
                  · exact rkk.1 c (by omega)
                · rw [efh, efh, f14]
                  rw [f14] at h1 h2
                  exact rkk.2.1 c d (Nat.lt_of_le_of_ne (by omega) (fun z => h1 (by rw [z]; exact d3))) (Nat.lt_of_le_of_ne (by omega) (fun z => h2 (by rw [z]; exact d3))) h1 h2
                · rw [f14]
                  by_cases hcn : c = nc
                  · subst hcn
                    rw [n9 c 4 (Or.inr (by omega)), d1] at hh
                    exact absurd hh (by decide)
                  · rw [n9 c 4 (Or.inl hcn)] at hh
                    exact rkk.2.2 c (by omega) hh
