/-! leaving: the step -/
theorem INV_free {S T : Mem} {ng nm nc t pa rk mo : Nat} (h : INV S ng nm nc t pa rk mo) (f : ∀ a i, a ≠ 6 → ¬ (a = 18 ∧ i = 4) → T a i = S a i) (n6 : ∀ i j, j ≠ 2 → T 6 i j = S 6 i j) (v6 : ∀ i, i < 12 → T 6 i 2 = T 18 4 i) : INV T ng nm nc t pa rk mo := by
  obtain ⟨ki, ri, cnt, duty, par, per, mach, tk, ch, frs, giv, heads, ex, mom, st, rkk⟩ := h
  have g : ∀ a, a ≠ 6 → a ≠ 18 → T a = S a := fun a q1 q2 => funext fun i => f a i q1 (fun z => q2 z.1)
  have k18 : ∀ i, i ≠ 4 → T 18 i = S 18 i := fun i q => f 18 i (by decide) (fun z => q z.2)
  have k0 := g 0 (by decide) (by decide)
  have k1 := g 1 (by decide) (by decide)
  have k5 := g 5 (by decide) (by decide)
  have k7 := g 7 (by decide) (by decide)
  have k8 := g 8 (by decide) (by decide)
  have k9 := g 9 (by decide) (by decide)
  have k10 := g 10 (by decide) (by decide)
  have k11 := g 11 (by decide) (by decide)
  have k13 := g 13 (by decide) (by decide)
  have k14 := g 14 (by decide) (by decide)
  have k17 := g 17 (by decide) (by decide)
  have ecl : ∀ i, clay T i = clay S i := fun i => clay_V (n6 i 3 (by decide)) (by rw [k7])
  have eg : ∀ i, grp T i = grp S i := fun i => by unfold grp; rw [k18 3 (by decide)]
  refine ⟨?_, ?_, ?_, ?_, ?_, ?_, ?_, ?_, ?_, ?_, ?_, ?_, ?_, ?_, ?_, ?_⟩
  · exact KI_V ki (fun j _ _ => by rw [k0]) (by rw [k1]) n6 (fun i => by rw [k7]) (fun i => by rw [k9])
  · unfold RI TK at ri ⊢
    rw [k17, k18 2 (by decide), k18 3 (by decide), k18 5 (by decide)]
    obtain ⟨r1, r2, r3, r4, r5, r6, r7, r8, r9⟩ := ri
    exact ⟨r1, r2, r3, r4, r5, r6, r7, r8, fun m hm s hs hn k hk => r9 m hm s hs (by rw [← eg]; exact hn) k hk⟩
  · unfold I_cnt at cnt ⊢; rw [k0, k17]; exact cnt
  · intro i hi; rw [k1, k18 0 (by decide)]; exact duty i hi
  · intro i hi; rw [k1, k18 2 (by decide)]; exact par i hi
  · intro i hi; rw [k5, k18 1 (by decide)]; exact per i hi
  · intro i hi
    refine ⟨fun hi2 => ?_, v6 i hi⟩
    rw [n6 i 1 (by decide), k18 3 (by decide), k18 2 (by decide), ecl, eg]; exact (mach i hi).1 hi2
  · refine ⟨by rw [k18 5 (by decide), k8]; exact tk.1, fun i hi q hq => ?_⟩
    rw [k8, ecl, k9]; exact tk.2 i hi q hq
  · intro c hc; unfold I_ch1; rw [k9, k14, k18 6 (by decide), k18 7 (by decide), k18 8 (by decide), k18 9 (by decide), k18 10 (by decide), k18 11 (by decide), k18 12 (by decide)]; exact ch c hc
  · intro c h1 h2; rw [k9, k14, k18 11 (by decide), k11]; exact frs c h1 h2
  · exact giv_fr giv (fun c => by rw [k9]) (k18 13 (by decide)) (k18 14 (by decide)) k10 k11 (fun p j _ => by rw [k5])
  · intro q hq; unfold hdOk hdC; rw [k13, k14, k9]; exact heads q hq
  · intro k o hk ho; rw [k1, k18 15 (by decide)]; exact ex k o hk ho
  · exact mom_fr mom k11 (fun p j _ => by rw [k5])
  · exact st_fr st (fun c => by rw [k9]) k10 k11 (fun p j _ => by rw [k5])
  · exact rk_fr rkk (fun c => by rw [k9]) (by rw [k14]) k10 k11 (fun p j _ => by rw [k5])
theorem cUnt_at {S : Mem} {nc : Nat} : ∀ n, (∀ k i j, ¬ (k = 6 ∧ j = 2) → cUnt S nc n k i j = S k i j) ∧ (∀ i, n ≤ i → cUnt S nc n 6 i 2 = S 6 i 2) ∧ (∀ i, i < n → cUnt S nc n 6 i 2 = bif (cNear S nc i (clay S i)).isSome then S 0 0 0 else S 6 i 2)
  | 0 => ⟨fun _ _ _ _ => rfl, fun _ _ => rfl, fun i hi => absurd hi (Nat.not_lt_zero _)⟩
  | n + 1 => by
    obtain ⟨i1, i2, i3⟩ := cUnt_at (S := S) (nc := nc) n
    have f : ∀ k, k ≠ 6 → cUnt S nc n k = S k := fun k hk => funext fun i => cUnt_fr hk n
    have ecl : clay (cUnt S nc n) n = clay S n := clay_V (i1 6 n 3 (by omega)) (by rw [f 7 (by decide)])
    have enr : cNear (cUnt S nc n) nc n (clay (cUnt S nc n) n) = cNear S nc n (clay S n) := by
      rw [ecl]
      unfold cNear cNhL cNh
      rw [f 8 (by decide), f 9 (by decide)]
    have e0 : cUnt S nc n 0 0 0 = S 0 0 0 := by rw [f 0 (by decide)]
    show (∀ k i j, ¬ (k = 6 ∧ j = 2) → (bif (cNear (cUnt S nc n) nc n (clay (cUnt S nc n) n)).isSome then uM (cUnt S nc n) 6 n 2 (cUnt S nc n 0 0 0) else cUnt S nc n) k i j = S k i j) ∧ (∀ i, n + 1 ≤ i → (bif (cNear (cUnt S nc n) nc n (clay (cUnt S nc n) n)).isSome then uM (cUnt S nc n) 6 n 2 (cUnt S nc n 0 0 0) else cUnt S nc n) 6 i 2 = S 6 i 2) ∧ (∀ i, i < n + 1 → (bif (cNear (cUnt S nc n) nc n (clay (cUnt S nc n) n)).isSome then uM (cUnt S nc n) 6 n 2 (cUnt S nc n 0 0 0) else cUnt S nc n) 6 i 2 = _)
    rw [enr, e0]
    have other : ∀ k i j, ¬ (k = 6 ∧ i = n ∧ j = 2) → (bif (cNear S nc n (clay S n)).isSome then uM (cUnt S nc n) 6 n 2 (S 0 0 0) else cUnt S nc n) k i j = cUnt S nc n k i j := fun k i j hh => by
      cases (cNear S nc n (clay S n)).isSome with
      | true => exact uM_n hh
      | false => rfl
    refine ⟨fun k i j hh => (other k i j (by omega)).trans (i1 k i j hh), fun i hi => (other 6 i 2 (by omega)).trans (i2 i (by omega)), fun i hi => ?_⟩
    by_cases hk : i = n
    · subst hk
      cases (cNear S nc i (clay S i)).isSome with
      | true => exact uM_s
      | false => exact i2 i (Nat.le_refl i)
    · exact (other 6 i 2 (by omega)).trans (i3 i (by omega))
theorem rS4_fr {S T : Mem} {p c : Nat} (h17 : T 17 0 1 = S 17 0 1) (h : ∀ i, i ≠ 1 → T 18 i = S 18 i) : rS4 T p c = rS4 S p c ∧ rG5 T p c = rG5 S p c := by
  have e5 : rG5 T p c = rG5 S p c := by unfold rG5; rw [h17, h 13 (by decide), h 14 (by decide)]
  refine ⟨?_, e5⟩
  unfold rS4 rGN
  rw [h17, h 6 (by decide), h 9 (by decide), h 11 (by decide), e5, h 13 (by decide)]
