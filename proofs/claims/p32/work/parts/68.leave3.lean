/-! leaving under suspicion: what it keeps -/
theorem bc_cnt {v : Int32} (f : Nat → Bool) (hv : ∃ w, w < 256 ∧ v = nI w) (hb : ∀ q, q < 8 → cntI v (nI q) = f q) : bcF v = nI (cntB f 8) := by
  obtain ⟨w, hw, e⟩ := hv
  rw [e, bcF_ok w hw]
  congr 1
  refine cntB_cong fun q hq => ?_
  rw [← cnt_nI w hw q hq, ← e]
  exact hb q hq
theorem wthf_256 : ∀ v, v < 256 → ∀ p, p < 8 → ∃ w, w < 256 ∧ wthI (nI v) (nI p) false = nI w := by
  have h : ∀ v, v < 256 → ∀ p, p < 8 → (v &&& (255 - (1 <<< p))) < 256 ∧ wthI (nI v) (nI p) false = nI (v &&& (255 - (1 <<< p))) := by decide +kernel
  exact fun v hv p hp => ⟨_, (h v hv p hp).1, (h v hv p hp).2⟩
theorem hvB_lv {T : Mem} {p t : Nat} (h1 : T 5 p 1 = nI 1) (h2 : T 5 p 2 = nI t) (x : Int32) : hvB T p x = decide (nI t - x < nI 30) := by
  unfold hvB
  rw [h1, h2, decide_eq_true (p := nI 1 ≠ 0) (by decide), Bool.true_and]
/-- what approvals of p are worth behind p's leaving -/
theorem lv_bits {S : Mem} {c p t : Nat} (hg : I_giv1 S c) (hp : p < 8) (h51 : S 5 p 1 = 0) : (∃ w, w < 256 ∧ lB5 S c p (nI t) = nI w) ∧ ∀ q, q < 8 → cntI (lB5 S c p (nI t)) (nI q) = (if q = p then (decide (S 11 c p ≠ -1) && !decide (nI t - S 10 c p < nI 30)) else cntI (S 9 c 5) (nI q)) := by
  obtain ⟨⟨v, hv, e⟩, g⟩ := hg
  have hvp : ∀ x, hvB S p x = false := fun x => by unfold hvB; rw [h51, decide_eq_false (fun z => z rfl)]; rfl
  have hb := (g p hp).2.1
  rw [hvp, Bool.not_false, Bool.and_true] at hb
  unfold lB5
  cases hd : decide (nI t - S 10 c p < nI 30) with
  | false =>
    rw [Bool.and_false, cond_false]
    refine ⟨⟨v, hv, e⟩, fun q hq => ?_⟩
    by_cases hqp : q = p
    · rw [if_pos hqp, hqp, hb, Bool.not_false, Bool.and_true]
    · rw [if_neg hqp]
  | true =>
    rw [Bool.and_true]
    cases hc : cntI (S 9 c 5) (nI p) with
    | false =>
      rw [cond_false]
      refine ⟨⟨v, hv, e⟩, fun q hq => ?_⟩
      by_cases hqp : q = p
      · rw [if_pos hqp, hqp, hc, Bool.not_true, Bool.and_false]
      · rw [if_neg hqp]
    | true =>
      rw [cond_true]
      refine ⟨by rw [e]; exact wthf_256 v hv p hp, fun q hq => ?_⟩
      rw [wth_cnt _ false (by omega) (by omega)]
      by_cases hqp : q = p
      · rw [if_pos hqp, if_pos hqp, Bool.not_true, Bool.and_false]
      · rw [if_neg hqp, if_neg hqp]
theorem lv_given {S : Mem} {c p t : Nat} (hg : I_giv1 S c) (hp : p < 8) (h51 : S 5 p 1 = 0) (ht : S 17 0 1 = nI t) : decide (rG5 S p c = nI 1) = (decide (S 11 c p ≠ -1) && !decide (nI t - S 10 c p < nI 30)) := by
  obtain ⟨-, g⟩ := hg
  have hvp : ∀ x, hvB S p x = false := fun x => by unfold hvB; rw [h51, decide_eq_false (fun z => z rfl)]; rfl
  obtain ⟨g1, g2, g3⟩ := g p hp
  rw [hvp, Bool.not_false, Bool.and_true] at g2
  have e : decide (S 18 13 (8 * c + p) = nI 1) = decide (S 11 c p ≠ -1) := g1.symm.trans g2
  unfold rG5
  rw [ht]
  by_cases h1 : S 11 c p = -1
  · rw [e, decide_eq_false (p := S 11 c p ≠ -1) (fun z => z h1), Bool.false_and, Bool.false_and, cond_false, e, decide_eq_false (p := S 11 c p ≠ -1) (fun z => z h1)]
  · rw [e, decide_eq_true (p := S 11 c p ≠ -1) h1, Bool.true_and, Bool.true_and, ← g3 h1]
    cases decide (nI t - S 10 c p < nI 30) with
    | true => rw [cond_true]; decide
    | false => rw [cond_false, e, decide_eq_true (p := S 11 c p ≠ -1) h1]; rfl
