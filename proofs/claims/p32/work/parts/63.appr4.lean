/-! approving: a change is HELD -/
theorem ap_held {S V : Mem} {ng nm nc t pa rk mo p c rk' : Nat} {v r' : Int32} (h : INV S ng nm nc t pa rk mo) (hmo : mo + 1 < 2 ^ 20) (hp : p < 8) (hc : c < nc) (hserv : S 5 p 1 = 0) (hbit : cntI (S 9 c 5) (nI p) = false) (h3 : S 9 c 4 ≠ nI 3) (hN : 2 ≤ haN S c + 1)
    (vk : ∀ k, k ≠ 0 → k ≠ 9 → k ≠ 14 → V k = apS S p c k) (v0 : ∀ j, j ≠ 10 → V 0 0 j = apS S p c 0 0 j) (v0a : V 0 0 10 = nI rk') (v9 : ∀ c' j, ¬ (c' = c ∧ j = 4) → V 9 c' j = apS S p c 9 c' j) (v94 : V 9 c 4 = nI 1) (v14 : ∀ c', V 14 0 c' = if c' = c then r' else S 14 0 c')
    (hr : (S 14 0 c = -1 ∧ r' = nI rk ∧ rk' = rk + 1) ∨ (S 14 0 c ≠ -1 ∧ r' = S 14 0 c ∧ rk' = rk)) :
    INV (uM (uM (uM (uM (uM (uM (uM (fHM V nc) 19 0 0 v) 17 0 0 (nI 0)) 18 13 (8 * c + p) (nI 1)) 18 14 (8 * c + p) (nI t)) 18 11 c (nI 1)) 17 0 12 (nI rk')) 18 12 c r') ng nm nc t pa rk' (mo + 1) := by
  obtain ⟨T, hT⟩ : ∃ T, T = uM (uM (uM (uM (uM (uM (uM (fHM V nc) 19 0 0 v) 17 0 0 (nI 0)) 18 13 (8 * c + p) (nI 1)) 18 14 (8 * c + p) (nI t)) 18 11 c (nI 1)) 17 0 12 (nI rk')) 18 12 c r' := ⟨_, rfl⟩
  rw [← hT]
  have hcnt := h.2.2.1
  have hnc := h.1.2.2.1.2
  have low : ∀ k, k ≠ 17 → k ≠ 18 → k ≠ 19 → T k = fHM V nc k := fun k a b d => by
    funext i
    rw [hT]
    exact (uS_n (fun z => b z.1)).trans ((uS_n (fun z => a z.1)).trans ((uS_n (fun z => b z.1)).trans ((uS_n (fun z => b z.1)).trans ((uS_n (fun z => b z.1)).trans ((uS_n (fun z => a z.1)).trans (uS_n (fun z => d z.1)))))))
  have low2 : ∀ k, k ≠ 13 → k ≠ 17 → k ≠ 18 → k ≠ 19 → T k = V k := fun k z a b d => (low k a b d).trans (funext fun i => uS_n (fun w => z w.1))
  have vS : ∀ k, k ≠ 0 → k ≠ 9 → k ≠ 10 → k ≠ 11 → k ≠ 14 → V k = S k := fun k a b d e f => (vk k a b f).trans (apS_k a b d e)
  have V18 : fHM V nc 18 = S 18 := (show fHM V nc 18 = V 18 from rfl).trans (vS 18 (by decide) (by decide) (by decide) (by decide) (by decide))
  have V17 : fHM V nc 17 = S 17 := (show fHM V nc 17 = V 17 from rfl).trans (vS 17 (by decide) (by decide) (by decide) (by decide) (by decide))
  have k9 := low2 9 (by decide) (by decide) (by decide) (by decide)
  have k10 : T 10 = apS S p c 10 := (low2 10 (by decide) (by decide) (by decide) (by decide)).trans (vk 10 (by decide) (by decide) (by decide))
  have k11 : T 11 = apS S p c 11 := (low2 11 (by decide) (by decide) (by decide) (by decide)).trans (vk 11 (by decide) (by decide) (by decide))
  have k14 := low2 14 (by decide) (by decide) (by decide) (by decide)
  have k0 := low2 0 (by decide) (by decide) (by decide) (by decide)
  have hrb : rk' ≤ mo + 1 ∧ rk ≤ rk' := by
    have := hcnt.1.2.2
    rcases hr with ⟨-, -, z⟩ | ⟨-, -, z⟩ <;> omega
  have e18 : ∀ i, i ≠ 11 → i ≠ 12 → i ≠ 13 → i ≠ 14 → T 18 i = S 18 i := fun i a11 a12 a13 a14 => by
    rw [hT]
    exact (uS_n (fun z => a12 z.2)).trans ((uS_n (fun z => a11 z.2)).trans ((uS_n (fun z => a14 z.2)).trans ((uS_n (fun z => a13 z.2)).trans (congrFun V18 i))))
  refine INV_ap (c := c) (p := p) (rk' := rk') (st' := nI 1) (r' := r') h hc hp hmo hserv hbit ?_ ?_ ?_ ?_ ?_ ?_ ⟨hrb.2, hrb.1⟩ ?_ ?_ ?_ ?_ ?_ ?_ ?_ e18 ?_ ?_ ?_ ?_ ?_ h3 (Or.inr ⟨rfl, hN, hr⟩) ?_
  · intro a a0 a9 a10 a11 a13 a14 a17 a18 a19
    exact (low2 a a13 a17 a18 a19).trans (vS a a0 a9 a10 a11 a14)
  · intro j j10 j11; rw [k0, v0 j j10, apS_0 j11]
  · rw [k0]; exact v0a
  · rw [k0, v0 11 (by decide), apS_m, hcnt.2.1, nI_add]
  · intro j j0 j12
    rw [hT]
    show uM (uM _ 17 0 0 (nI 0)) 17 0 12 (nI rk') 17 0 j = _
    rw [uM_n (fun z => j12 z.2.2), uM_n (fun z => j0 z.2.2)]
    show fHM V nc 17 0 j = _
    rw [V17]
  · rw [hT, uM_n (fun z => absurd z.1 (by decide)), uM_s]
  · intro c' j hh; rw [k9, v9 c' j (fun z => hh ⟨z.1, Or.inl z.2⟩), apS_9n (fun z => hh ⟨z.1, Or.inr z.2⟩)]
  · rw [k9]; exact v94
  · rw [k9, v9 c 5 (by omega), apS_95]
  · intro c' q hh; rw [k10, apS_10n hh]
  · rw [k10, apS_10]; exact h.1.2.2.2.1.1
  · intro c' q hh; rw [k11, apS_11n hh]
  · rw [k11, apS_11, hcnt.2.1, nI_add]
  · intro c'
    rw [hT]
    show upd (fHM V nc 18 11) c (nI 1) c' = _
    rw [V18]; rfl
  · intro c'
    rw [hT]
    show upd (fHM V nc 18 12) c r' c' = _
    rw [V18]; rfl
  · intro x
    rw [hT]
    show upd (fHM V nc 18 13) (8 * c + p) (nI 1) x = _
    rw [V18]; rfl
  · intro x
    rw [hT]
    show upd (fHM V nc 18 14) (8 * c + p) (nI t) x = _
    rw [V18]; rfl
  · intro c'; rw [k14]; exact v14 c'
  · intro q hq
    have e13 : T 13 0 = hdF V nc := by rw [low 13 (by decide) (by decide) (by decide)]; unfold fHM; exact uS_s
    rw [e13, k14]
    refine (hdG_best (hdB_at (S := V) (h := 0) hq) (n := nc) hnc (fun d hd e => ?_)).trans (congrArg oI (bestN_cong (fun d hd => ?_) (fun _ _ => rfl)))
    · have hk := of_decide_eq_true e
      rw [v14 d]
      have h1 := hcnt.1.2.2
      have h2 := hcnt.2.2
      by_cases hdc : d = c
      · rw [if_pos hdc]
        rcases hr with ⟨-, z, -⟩ | ⟨z1, z, -⟩
        · rw [z]; exact m1_lt (by omega)
        · rw [z]; exact (rk_pos h hc z1).1
      · rw [if_neg hdc]
        rw [v9 d 4 (fun z => hdc z.1), apS_9n (fun z => hdc z.1)] at hk
        exact (held_pos h hd hk).1
    · unfold hdOk hdC
      rw [k9]
