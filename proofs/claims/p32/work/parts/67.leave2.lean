/-! leaving under suspicion: what the reference does to one change -/
def rG5 (S : Mem) (p c : Nat) : Int32 := bif decide (S 18 13 (8 * c + p) = nI 1) && decide (S 17 0 1 - S 18 14 (8 * c + p) < nI 30) then nI 2 else S 18 13 (8 * c + p)
def rGN (S : Mem) (p c : Nat) : Nat := cntB (fun q => decide ((if q = p then rG5 S p c else S 18 13 (8 * c + q)) = nI 1)) 8
def rS4 (S : Mem) (p c : Nat) : Int32 := bif decide (S 18 6 c = nI p) && decide (S 17 0 1 - S 18 9 c < nI 30) then nI 3 else bif decide (S 18 11 c = nI 1) && decide (rGN S p c < 2) then nI 2 else S 18 11 c
theorem vGiv_13 {S : Mem} {p c x : Nat} : vGiv S p c 18 13 x = if x = 8 * c + p then rG5 S p c else S 18 13 x := by
  unfold vGiv rG5
  by_cases hx : x = 8 * c + p
  · rw [if_pos hx, hx]
    cases (decide (S 18 13 (8 * c + p) = nI 1) && decide (S 17 0 1 - S 18 14 (8 * c + p) < nI 30)) with
    | true => exact uM_s
    | false => rfl
  · rw [if_neg hx]
    cases (decide (S 18 13 (8 * c + p) = nI 1) && decide (S 17 0 1 - S 18 14 (8 * c + p) < nI 30)) with
    | true => exact uM_n (fun z => hx z.2.2)
    | false => rfl
theorem vGiv_fr {S : Mem} {p c k i : Nat} (h : ¬ (k = 18 ∧ i = 13)) : vGiv S p c k i = S k i := by
  unfold vGiv
  cases (decide (S 18 13 (8 * c + p) = nI 1) && decide (S 17 0 1 - S 18 14 (8 * c + p) < nI 30)) with
  | true => exact uS_n h
  | false => rfl
theorem vGiv_good {S : Mem} {p c : Nat} : mGood (vGiv S p c) c = rGN S p c := by
  unfold mGood rGN
  refine cntB_cong fun q hq => ?_
  rw [vGiv_13]
  by_cases h : q = p
  · rw [if_pos (by omega), if_pos h]
  · rw [if_neg (by omega), if_neg h]
theorem vStep_11 {S : Mem} {p c : Nat} : vStep S p c 18 11 c = rS4 S p c := by
  unfold vStep vSt3 vSt2 rS4
  rw [vGiv_good]
  have e11 : vGiv S p c 18 11 c = S 18 11 c := by rw [vGiv_fr (by omega)]
  have fr : ∀ (k i j : Nat), ¬ (k = 18 ∧ i = 11) → (bif decide (S 18 11 c = nI 1) && decide (rGN S p c < 2) then uM (vGiv S p c) 18 11 c (nI 2) else vGiv S p c) k i j = vGiv S p c k i j := fun k i j h => by
    cases (decide (S 18 11 c = nI 1) && decide (rGN S p c < 2)) with
    | true => exact congrFun (uS_n h) j
    | false => rfl
  rw [fr 18 6 c (by omega), fr 17 0 1 (by omega), fr 18 9 c (by omega), vGiv_fr (by omega), vGiv_fr (by omega), vGiv_fr (by omega)]
  cases (decide (S 18 6 c = nI p) && decide (S 17 0 1 - S 18 9 c < nI 30)) with
  | true => exact uM_s
  | false =>
    rw [cond_false, cond_false]
    cases (decide (S 18 11 c = nI 1) && decide (rGN S p c < 2)) with
    | true => exact uM_s
    | false => exact e11
theorem vStep_o {S : Mem} {p c k i j : Nat} (h : ¬ (k = 18 ∧ i = 11 ∧ j = c)) : vStep S p c k i j = vGiv S p c k i j := by
  have h2 : vSt2 (vGiv S p c) c (decide (S 18 11 c = nI 1)) k i j = vGiv S p c k i j := by
    unfold vSt2
    cases (decide (S 18 11 c = nI 1) && decide (mGood (vGiv S p c) c < 2)) with
    | true => exact uM_n h
    | false => rfl
  unfold vStep vSt3
  rw [← h2]
  generalize vSt2 (vGiv S p c) c (decide (S 18 11 c = nI 1)) = X
  cases (decide (X 18 6 c = nI p) && decide (X 17 0 1 - X 18 9 c < nI 30)) with
  | true => exact uM_n h
  | false => rfl
theorem vm_at {S : Mem} {p : Nat} (hp : p < 8) : ∀ n, (∀ c, n ≤ c → vMem S p n 18 11 c = S 18 11 c) ∧ (∀ c q, q < 8 → (n ≤ c ∨ q ≠ p) → vMem S p n 18 13 (8 * c + q) = S 18 13 (8 * c + q)) ∧ (∀ c, c < n → vMem S p n 18 11 c = rS4 S p c ∧ vMem S p n 18 13 (8 * c + p) = rG5 S p c)
  | 0 => ⟨fun _ _ => rfl, fun _ _ _ _ => rfl, fun c hc => absurd hc (Nat.not_lt_zero _)⟩
  | n + 1 => by
    obtain ⟨i1, i2, i3⟩ := vm_at (S := S) hp n
    have f : ∀ k i, ¬ vScr k i → vMem S p n k i = S k i := fun k i h => vMem_fr h n
    have e5 : rG5 (vMem S p n) p n = rG5 S p n := by
      unfold rG5
      rw [i2 n p hp (Or.inl (Nat.le_refl n)), f 17 0 (by unfold vScr; omega), f 18 14 (by unfold vScr; omega)]
    have eN : rGN (vMem S p n) p n = rGN S p n := by
      unfold rGN
      refine cntB_cong fun q hq => ?_
      rw [e5, i2 n q hq (Or.inl (Nat.le_refl n))]
    have e4 : rS4 (vMem S p n) p n = rS4 S p n := by
      unfold rS4
      rw [eN, i1 n (Nat.le_refl n), f 18 6 (by unfold vScr; omega), f 17 0 (by unfold vScr; omega), f 18 9 (by unfold vScr; omega)]
    refine ⟨fun c hc => ?_, fun c q hq hh => ?_, fun c hc => ?_⟩
    · show vStep (vMem S p n) p n 18 11 c = _
      rw [vStep_o (by omega), vGiv_fr (by omega)]
      exact i1 c (by omega)
    · show vStep (vMem S p n) p n 18 13 (8 * c + q) = _
      rw [vStep_o (by omega), vGiv_13, if_neg (by omega)]
      exact i2 c q hq (by omega)
    · show vStep (vMem S p n) p n 18 11 c = _ ∧ vStep (vMem S p n) p n 18 13 (8 * c + p) = _
      by_cases hk : c = n
      · subst hk
        rw [vStep_11, vStep_o (by omega), vGiv_13, if_pos rfl, e4, e5]
        exact ⟨rfl, rfl⟩
      · rw [vStep_o (by omega), vStep_o (by omega), vGiv_13, if_neg (by omega), vGiv_fr (by omega)]
        exact i3 c (by omega)
