/-! a day passes -/
theorem top_18 {S T : Mem} {nc m s k : Nat} (h : T 18 = S 18) : mTop T nc m s k = mTop S nc m s k := by
  unfold mTop mTopI mOkI
  rw [h]
theorem uS_cg {A P : Mem} {j : Nat} {f g : Nat → Int32} (h : ∀ k, k ≠ 22 → A k = P k) (hf : f = g) : ∀ k, k ≠ 22 → uS A 18 j f k = uS P 18 j g k := by
  intro k hk
  funext i
  unfold uS
  rw [h k hk, hf]
theorem pSt_cg {A P : Mem} {nc m l y : Nat} (h : ∀ k, k ≠ 22 → A k = P k) : (∀ k, k ≠ 22 → (pSt nc (A, l, y) m).1 k = (pSt nc (P, l, y) m).1 k) ∧ (pSt nc (A, l, y) m).2 = (pSt nc (P, l, y) m).2 := by
  have h17 := h 17 (by decide)
  have h18 := h 18 (by decide)
  have e1 := halt_18 (m := m) h18
  have e2 : bkF A m = bkF P m := by unfold bkF mNhL nhB grp; rw [h18]
  have e3 : mFar A nc m (grp A m) = mFar P nc m (grp P m) := by unfold mFar mLag mTop mTopI mOkI grp; rw [h18]
  have e17 : decide (A 17 0 1 < A 18 4 m) = decide (P 17 0 1 < P 18 4 m) := by rw [h17, h18]
  have e4 : grp A m = grp P m := by unfold grp; rw [h18]
  unfold pSt
  dsimp only
  rw [e1, e2, e3, e17, e4, h18]
  cases mHalt P m with
  | true => exact ⟨uS_cg h (by unfold gbV mTop mTopI mOkI nhB; rw [h18]), rfl⟩
  | false =>
    simp only [cond_false]
    cases decide (P 17 0 1 < P 18 4 m) with
    | true => exact ⟨h, rfl⟩
    | false =>
      simp only [cond_false]
      cases decide (l = 0) with
      | true => exact ⟨h, rfl⟩
      | false =>
        simp only [cond_false]
        cases decide (mFar P nc m (grp P m) ≠ 0) with
        | false => exact ⟨h, rfl⟩
        | true =>
          refine ⟨?_, rfl⟩
          have e5 : mFar A nc m (grp P m) = mFar P nc m (grp P m) := by rw [← e4]; rw [← e4] at e3; exact e3
          unfold mTake
          rw [e5, h18]
          cases mFar P nc m (grp P m) with
          | zero => exact h
          | succ i => exact uS_cg h (by unfold mTop mTopI mOkI; rw [h18])
theorem LR_day {S : Mem} {ng nm nc t pa rk : Nat} (hL : LR S ng nm nc t pa rk) (ht : t + 1 < 2 ^ 20) (x : Int32) : LR (uM (uM S 22 0 0 (nI (t + 1))) 17 0 1 x) ng nm nc (t + 1) pa rk := by
  have e18 : uM (uM S 22 0 0 (nI (t + 1))) 17 0 1 x 18 = S 18 := funext fun i => (uS_n (fun z => absurd z.1 (by decide))).trans (uS_n (fun z => absurd z.1 (by decide)))
  have e22 : ∀ i, i ≠ 0 → uM (uM S 22 0 0 (nI (t + 1))) 17 0 1 x 22 i = S 22 i := fun i hi => (uS_n (fun z => absurd z.1 (by decide))).trans (uS_n (fun z => hi z.2))
  have e0 : ∀ j, j ≠ 0 → uM (uM S 22 0 0 (nI (t + 1))) 17 0 1 x 22 0 j = S 22 0 j := fun j hj => by
    rw [uM_n (fun z => absurd z.1 (by decide)), uM_n (fun z => hj z.2.2)]
  have e00 : uM (uM S 22 0 0 (nI (t + 1))) 17 0 1 x 22 0 0 = nI (t + 1) := by rw [uM_n (fun z => absurd z.1 (by decide)), uM_s]
  obtain ⟨⟨⟨a0, a1, a2, a3, a4, a5⟩, hng1, hng4, hnm3, hnc12, ht20, hrk20, hpa12⟩, hD, hG, hN, hT, hZ, hC, hCz, hA, hB, hE⟩ := hL
  refine ⟨⟨⟨e00, by rw [e0 1 (by decide)]; exact a1, by rw [e0 2 (by decide)]; exact a2, by rw [e0 3 (by decide)]; exact a3, by rw [e0 4 (by decide)]; exact a4, by rw [e0 5 (by decide)]; exact a5⟩, hng1, hng4, hnm3, hnc12, ht, hrk20, hpa12⟩, ?_, ?_, ?_, ?_, ?_, ?_, ?_, ?_, ?_, ?_⟩
  · intro i hi; rw [e0 _ (by omega), e18]; exact hD i hi
  · intro p hp; rw [e0 10 (by decide), e0 11 (by decide), e18]; exact hG p hp
  · unfold LN
    rw [e22 1 (by decide), e18]
    refine ⟨hN.1, hN.2.1, fun m hm => ?_⟩
    obtain ⟨u, v, u1, v1, x1, x2, h⟩ := hN.2.2 m hm
    exact ⟨u, v, u1, v1, x1, x2, by omega⟩
  · unfold LT; rw [e22 2 (by decide), e18]; exact hT
  · unfold LZ; rw [e18]; exact hZ
  · exact LC_fr hC (fun i _ => by rw [e18]) (e22 3 (by decide))
  · unfold LCz; rw [e22 3 (by decide)]; exact hCz
  · intro c hc
    unfold LA1
    rw [e22 4 (by decide), e18]
    refine ⟨fun p hp => ?_, (hA c hc).2⟩
    rcases (hA c hc).1 p hp with ⟨z, d, d1, d2, d3⟩ | z
    · exact Or.inl ⟨z, d, by omega, d2, d3⟩
    · exact Or.inr z
  · intro c hc
    rw [e22 5 (by decide), e18]
    obtain ⟨a, d, z1, z2, z3⟩ := hB c hc
    exact ⟨a, d, z1, by omega, z3⟩
  · unfold LE; rw [e22 6 (by decide), e18]; exact hE
theorem stN_2 {S : Mem} {nc m left : Nat} : stN S nc m left ≤ 2 ∧ (stN S nc m left = 2 → 1 ≤ left) := by
  unfold stN
  cases mHalt S m with
  | true => exact ⟨(by decide : 1 ≤ 2), fun z => absurd (show (1 : Nat) = 2 from z) (by decide)⟩
  | false =>
    simp only [cond_false]
    cases decide (S 17 0 1 < S 18 4 m) with
    | true => exact ⟨(by decide : 0 ≤ 2), fun z => absurd (show (0 : Nat) = 2 from z) (by decide)⟩
    | false =>
      simp only [cond_false]
      cases hl : decide (left = 0) with
      | true => exact ⟨(by decide : 0 ≤ 2), fun z => absurd (show (0 : Nat) = 2 from z) (by decide)⟩
      | false =>
        have := of_decide_eq_false hl
        simp only [cond_false]
        cases decide (mFar S nc m (grp S m) ≠ 0) with
        | true => exact ⟨(by decide : 2 ≤ 2), fun _ => by omega⟩
        | false => exact ⟨(by decide : 0 ≤ 2), fun z => absurd (show (0 : Nat) = 2 from z) (by decide)⟩
theorem pSts_le {S : Mem} {nc pa : Nat} : ∀ n, (pSts nc (S, pa, 0) n).2.1 ≤ pa ∧ (pSts nc (S, pa, 0) n).2.2 ≤ n
  | 0 => ⟨Nat.le_refl _, Nat.le_refl _⟩
  | n + 1 => by
    obtain ⟨a, b⟩ := pSts_le (S := S) (nc := nc) (pa := pa) n
    have h := stA_eq (S := (pSts nc (S, pa, 0) n).1) (nc := nc) (m := n) (left := (pSts nc (S, pa, 0) n).2.1) (y := (pSts nc (S, pa, 0) n).2.2)
    have e : pSts nc (S, pa, 0) (n + 1) = pSt nc ((pSts nc (S, pa, 0) n).1, (pSts nc (S, pa, 0) n).2.1, (pSts nc (S, pa, 0) n).2.2) n := rfl
    rw [e, h.2.1, h.2.2]
    constructor
    · split <;> omega
    · split <;> omega
