/-! leaving under suspicion: what the class does to one change -/
def lB5 (S : Mem) (c p : Nat) (d : Int32) : Int32 := bif cntI (S 9 c 5) (nI p) && decide (d - S 10 c p < nI 30) then wthI (S 9 c 5) (nI p) false else S 9 c 5
def lS4 (S : Mem) (c p : Nat) (d : Int32) : Int32 := bif decide (S 9 c 0 = nI p) && decide (d - S 9 c 3 < nI 30) then nI 3 else bif decide (S 9 c 4 = nI 1) && decide (bcF (lB5 S c p d) < nI 2) then nI 2 else S 9 c 4
theorem lG_fr {S : Mem} {c p : Nat} {d : Int32} {k i j : Nat} (h : ¬ (k = 9 ∧ i = c ∧ j = 5)) : lG S c p d k i j = S k i j := by
  unfold lG
  cases (cntI (S 9 c 5) (nI p) && decide (d - S 10 c p < nI 30)) with
  | true => exact uM_n h
  | false => rfl
theorem lG_5 {S : Mem} {c p : Nat} {d : Int32} : lG S c p d 9 c 5 = lB5 S c p d := by
  unfold lG lB5
  cases (cntI (S 9 c 5) (nI p) && decide (d - S 10 c p < nI 30)) with
  | true => exact uM_s
  | false => rfl
theorem lL_4 {S : Mem} {c p : Nat} {d : Int32} : lL S c p d 9 c 4 = lS4 S c p d := by
  unfold lL lL2 lS4
  rw [lG_fr (by omega), lG_fr (by omega), lG_5]
  cases (decide (S 9 c 0 = nI p) && decide (d - S 9 c 3 < nI 30)) with
  | true => exact uM_s
  | false =>
    rw [cond_false, cond_false]
    cases (decide (S 9 c 4 = nI 1) && decide (bcF (lB5 S c p d) < nI 2)) with
    | true => exact uM_s
    | false => exact lG_fr (by omega)
theorem lL_n {S : Mem} {c p : Nat} {d : Int32} {k i j : Nat} (h : ¬ (k = 9 ∧ i = c ∧ j = 4)) : lL S c p d k i j = lG S c p d k i j := by
  unfold lL lL2
  cases (decide (lG S c p d 9 c 0 = nI p) && decide (d - lG S c p d 9 c 3 < nI 30)) with
  | true => exact uM_n h
  | false =>
    rw [cond_false]
    cases (decide (S 9 c 4 = nI 1) && decide (bcF (lG S c p d 9 c 5) < nI 2)) with
    | true => exact uM_n h
    | false => rfl
theorem lL_5 {S : Mem} {c p : Nat} {d : Int32} : lL S c p d 9 c 5 = lB5 S c p d := (lL_n (by omega)).trans lG_5
theorem lL_o {S : Mem} {c p : Nat} {d : Int32} {k i j : Nat} (h : ¬ (k = 9 ∧ i = c ∧ (j = 4 ∨ j = 5))) : lL S c p d k i j = S k i j := (lL_n (by omega)).trans (lG_fr (by omega))
theorem vc_at {S : Mem} {p : Nat} : ∀ n, (∀ c j, n ≤ c → vcM S p n 9 c j = S 9 c j) ∧ (∀ c, c < n → vcM S p n 9 c 4 = lS4 S c p (S 0 0 0) ∧ vcM S p n 9 c 5 = lB5 S c p (S 0 0 0)) ∧ (∀ k i j, ¬ (k = 9 ∧ (j = 4 ∨ j = 5)) → vcM S p n k i j = S k i j)
  | 0 => ⟨fun _ _ _ => rfl, fun c hc => absurd hc (Nat.not_lt_zero _), fun _ _ _ _ => rfl⟩
  | n + 1 => by
    obtain ⟨i1, i2, i3⟩ := vc_at (S := S) (p := p) n
    have e0 : vcM S p n 0 0 0 = S 0 0 0 := i3 0 0 0 (by omega)
    have eb : lB5 (vcM S p n) n p (S 0 0 0) = lB5 S n p (S 0 0 0) := by
      unfold lB5
      rw [i1 n 5 (Nat.le_refl n), i3 10 n p (by omega)]
    have es : lS4 (vcM S p n) n p (S 0 0 0) = lS4 S n p (S 0 0 0) := by
      unfold lS4
      rw [i1 n 0 (Nat.le_refl n), i1 n 3 (Nat.le_refl n), i1 n 4 (Nat.le_refl n), eb]
    show (∀ c j, n + 1 ≤ c → lL (vcM S p n) n p (vcM S p n 0 0 0) 9 c j = S 9 c j) ∧ (∀ c, c < n + 1 → lL (vcM S p n) n p (vcM S p n 0 0 0) 9 c 4 = _ ∧ lL (vcM S p n) n p (vcM S p n 0 0 0) 9 c 5 = _) ∧ (∀ k i j, ¬ (k = 9 ∧ (j = 4 ∨ j = 5)) → lL (vcM S p n) n p (vcM S p n 0 0 0) k i j = S k i j)
    rw [e0]
    refine ⟨fun c j hc => (lL_o (by omega)).trans (i1 c j (by omega)), fun c hc => ?_, fun k i j hh => (lL_o (by omega)).trans (i3 k i j hh)⟩
    by_cases hk : c = n
    · subst hk
      rw [lL_4, lL_5, es, eb]
      exact ⟨rfl, rfl⟩
    · rw [lL_o (by omega), lL_o (by omega)]
      exact i2 c (by omega)
