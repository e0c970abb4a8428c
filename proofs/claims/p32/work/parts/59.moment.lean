/-! approving: the moment at which a change was first held -/
def vld (S : Mem) (c q : Nat) : Bool := decide (S 11 c q ≠ -1) && decide (2 ≤ cgN S c (S 11 c q))
theorem fh_spec {S : Mem} {c : Nat} : ∀ n, (fhF S c n = -1 ∧ ∀ q, q < n → vld S c q = false) ∨ (∃ q, q < n ∧ vld S c q = true ∧ fhF S c n = S 11 c q ∧ ∀ q', q' < n → vld S c q' = true → S 11 c q ≤ S 11 c q')
  | 0 => Or.inl ⟨rfl, fun q hq => absurd hq (Nat.not_lt_zero _)⟩
  | n + 1 => by
    have hex : ∀ (P : Nat → Prop), (∀ q, q < n → P q) → P n → ∀ q, q < n + 1 → P q := fun P h1 h2 q hq => by
      by_cases hk : q = n
      · rw [hk]; exact h2
      · exact h1 q (by omega)
    unfold fhF
    rcases fh_spec (S := S) (c := c) n with ⟨i1, i2⟩ | ⟨q, i1, i2, i3, i4⟩
    · rw [i1, decide_eq_true (rfl : (-1 : Int32) = -1), Bool.true_or, Bool.and_true]
      show ((bif vld S c n then S 11 c n else -1) = -1 ∧ _) ∨ _
      cases hv : vld S c n with
      | false => exact Or.inl ⟨rfl, hex _ i2 hv⟩
      | true =>
        refine Or.inr ⟨n, Nat.lt_succ_self n, hv, ?_, hex _ (fun q' hq' z => ?_) (fun _ => Int32.le_refl _)⟩
        · show (bif vld S c n then S 11 c n else -1) = _
          rw [hv]; rfl
        · rw [i2 q' hq'] at z; cases z
    · have hq1 : S 11 c q ≠ -1 := of_decide_eq_true (Bool.and_eq_true_iff.mp i2).1
      rw [i3, decide_eq_false hq1, Bool.false_or]
      cases hv : vld S c n with
      | false =>
        refine Or.inr ⟨q, by omega, i2, ?_, hex _ i4 (fun z => by rw [hv] at z; cases z)⟩
        have : ((decide (S 11 c n ≠ -1) && decide (S 11 c n < S 11 c q)) && decide (2 ≤ cgN S c (S 11 c n))) = false := by
          unfold vld at hv
          cases h1 : decide (S 11 c n ≠ -1) with
          | false => rfl
          | true =>
            rw [h1, Bool.true_and] at hv
            rw [hv, Bool.and_false]
        rw [this]; rfl
      | true =>
        obtain ⟨v1, v2⟩ := Bool.and_eq_true_iff.mp hv
        rw [v1, v2, Bool.true_and, Bool.and_true]
        by_cases hlt : S 11 c n < S 11 c q
        · rw [decide_eq_true hlt]
          refine Or.inr ⟨n, Nat.lt_succ_self n, hv, rfl, hex _ (fun q' hq' z => ?_) (fun _ => Int32.le_refl _)⟩
          have := i4 q' hq' z
          rw [i32_le] at this ⊢
          rw [i32_lt] at hlt
          omega
        · rw [decide_eq_false hlt]
          exact Or.inr ⟨q, by omega, i2, rfl, hex _ i4 (fun _ => Int32.not_lt.mp hlt)⟩
theorem fh_new {S T : Mem} {c p mo N : Nat} (hmo : mo < 2 ^ 20) (hm : ∀ q, q < 8 → S 11 c q = -1 ∨ ∃ x, 1 ≤ x ∧ x ≤ mo ∧ S 11 c q = nI x) (hp : p < 8) (h11 : ∀ q, q ≠ p → T 11 c q = S 11 c q) (hpn : T 11 c p = nI (mo + 1)) (hold : S 11 c p = -1)
    (hcg : ∀ x, x ≤ mo → cgN T c (nI x) = cgN S c (nI x)) (hcn : cgN T c (nI (mo + 1)) = N) : fh T c = bif decide (fh S c = -1) then (bif decide (2 ≤ N) then nI (mo + 1) else -1) else fh S c := by
  have vp : vld T c p = decide (2 ≤ N) := by
    unfold vld
    rw [hpn, hcn, decide_eq_true (m1_ne (n := mo + 1) (by omega)), Bool.true_and]
  have vq : ∀ q, q < 8 → q ≠ p → vld T c q = vld S c q := by
    intro q hq hne
    unfold vld
    rw [h11 q hne]
    rcases hm q hq with z | ⟨x, x1, x2, x3⟩
    · rw [z, decide_eq_false (p := (-1 : Int32) ≠ -1) (fun w => w rfl), Bool.false_and, Bool.false_and]
    · rw [x3, hcg x x2]
  have vs : vld S c p = false := by unfold vld; rw [hold, decide_eq_false (p := (-1 : Int32) ≠ -1) (fun w => w rfl), Bool.false_and]
  have hS := fh_spec (S := S) (c := c) 8
  have hT := fh_spec (S := T) (c := c) 8
  unfold fh
  rcases hS with ⟨s1, s2⟩ | ⟨q, s1, s2, s3, s4⟩
  · rw [s1, decide_eq_true (rfl : (-1 : Int32) = -1), cond_true]
    by_cases hN : 2 ≤ N
    · rw [decide_eq_true hN, cond_true]
      rcases hT with ⟨t1, t2⟩ | ⟨q, t1, t2, t3, t4⟩
      · have := t2 p hp
        rw [vp, decide_eq_true hN] at this; cases this
      · by_cases hqp : q = p
        · rw [t3, hqp, hpn]
        · rw [vq q t1 hqp, s2 q t1] at t2; cases t2
    · rw [decide_eq_false hN, cond_false]
      rcases hT with ⟨t1, t2⟩ | ⟨q, t1, t2, t3, t4⟩
      · exact t1
      · by_cases hqp : q = p
        · rw [hqp, vp, decide_eq_false hN] at t2; cases t2
        · rw [vq q t1 hqp, s2 q t1] at t2; cases t2
  · have hq1 : S 11 c q ≠ -1 := of_decide_eq_true (Bool.and_eq_true_iff.mp s2).1
    have hqp : q ≠ p := fun z => by rw [z, vs] at s2; cases s2
    rw [s3, decide_eq_false hq1, cond_false]
    have hqT : vld T c q = true := (vq q s1 hqp).trans s2
    rcases hT with ⟨t1, t2⟩ | ⟨w, t1, t2, t3, t4⟩
    · rw [t2 q s1] at hqT; cases hqT
    · have hle := t4 q s1 hqT
      rw [h11 q hqp] at hle
      obtain ⟨x, x1, x2, x3⟩ := (hm q s1).resolve_left hq1
      by_cases hwp : w = p
      · rw [hwp, hpn, x3, i32_le, toInt_nI (by omega), toInt_nI (by omega)] at hle
        omega
      · rw [t3, h11 w hwp]
        rw [h11 w hwp] at hle
        have hwS : vld S c w = true := (vq w t1 hwp).symm.trans t2
        have hle2 := s4 w t1 hwS
        rw [i32_le] at hle hle2
        exact i32_eq.mpr (by omega)
/-- a count with one more -/
theorem cntB_one {f g : Nat → Bool} {p : Nat} : ∀ {n : Nat}, p < n → f p = false → g p = true → (∀ k, k < n → k ≠ p → f k = g k) → cntB g n = cntB f n + 1
  | 0, h, _, _, _ => absurd h (Nat.not_lt_zero _)
  | n + 1, h, hf, hg, he => by
    unfold cntB
    by_cases hp : p = n
    · subst hp
      rw [hf, hg, cntB_cong (fun k hk => he k (by omega) (by omega))]
      simp
    · rw [cntB_one (n := n) (by omega) hf hg (fun k hk => he k (by omega)), he n (by omega) (fun z => hp z.symm)]
      omega
