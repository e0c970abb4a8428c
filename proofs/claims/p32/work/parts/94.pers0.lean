/-! a turn: approve, leave, comeBack, withdraw -/
/-- behind a call that answered: the reference begins -/
def GB (M : Mem) (v : Int32) : Mem := uM (uM M 19 0 0 v) 17 0 0 (nI 0)
theorem GB_gh {M : Mem} {v : Int32} : ∀ b, b ≠ 17 → b ≠ 18 → b ≠ 19 → GB M v b = M b := fun b h17 h18 h19 => by
  funext i j
  simp [GB, uM_ap, h17, h19]
theorem GB_18 {S M : Mem} {v : Int32} (h : M 18 = S 18) : GB M v 18 = S 18 := h
theorem GB_22 {S M : Mem} {v : Int32} (h : M 22 = S 22) : GB M v 22 = S 22 := h
theorem GB_17 {S M : Mem} {v : Int32} {j : Nat} (h : M 17 = S 17) (hj : j ≠ 0) : GB M v 17 0 j = S 17 0 j := by
  rw [← h]
  simp [GB, uM_ap, hj]
theorem GB_RI {S M : Mem} {v : Int32} {ng nm nc t pa : Nat} (h17 : M 17 = S 17) (h18 : M 18 = S 18) (hR : RI S ng nm nc t pa) : RI (GB M v) ng nm nc t pa := by
  have e1 := GB_17 (v := v) h17 (show 1 ≠ 0 by decide)
  have e4 := GB_17 (v := v) h17 (show 4 ≠ 0 by decide)
  have e6 := GB_17 (v := v) h17 (show 6 ≠ 0 by decide)
  have e7 := GB_17 (v := v) h17 (show 7 ≠ 0 by decide)
  have e11 := GB_17 (v := v) h17 (show 11 ≠ 0 by decide)
  unfold RI TK grp at hR ⊢
  rw [e1, e4, e6, e7, e11, GB_18 h18]
  exact hR
theorem hgd_of {S : Mem} {ng nm nc t pa rk mo c : Nat} (h : INV S ng nm nc t pa rk mo) (hc : c < nc) : S 18 11 c ≠ nI 1 → S 18 11 c ≠ nI 3 → mGood S c ≤ 1 := by
  intro n1 n3
  have hb := qv_bd h
  have c13 : S 9 c 4 = S 18 11 c := by
    obtain ⟨a, s, k, d1, d2, d3, d4, d5, d6, d7, d8, d9, d10, d11, d12, d13, d14⟩ := h.2.2.2.2.2.2.2.2.1 c hc
    exact d13
  obtain ⟨-, g⟩ := h.2.2.2.2.2.2.2.2.2.2.1 c (by omega)
  obtain ⟨s1, s2⟩ := h.2.2.2.2.2.2.2.2.2.2.2.2.2.2.1 c hc
  have em : mGood S c = haN S c := cntB_cong fun p hp => (g p hp).1.symm.trans (g p hp).2.1
  rw [em]
  rcases Nat.lt_or_ge 1 (haN S c) with z | z
  · exfalso
    cases hv : hvB S (ix (S 9 c 0)) (S 9 c 3) with
    | true => exact n3 (c13 ▸ s2 hv)
    | false =>
      refine n1 (c13 ▸ s1.mpr ?_)
      unfold haB
      rw [hv, cond_false]
      exact decide_eq_true (by omega)
  · exact z
theorem apM_k {S : Mem} {p c nc k : Nat} (h0 : k ≠ 0) (h9 : k ≠ 9) (h10 : k ≠ 10) (h11 : k ≠ 11) (h13 : k ≠ 13) (h14 : k ≠ 14) : apM S p c nc k = S k := by
  have e := apS_k (S := S) (p := p) (c := c) h0 h9 h10 h11
  unfold apM
  cases (decide (apS S p c 9 c 4 ≠ nI 1) && decide (nI 2 ≤ bcF (apS S p c 9 c 5))) with
  | false => exact e
  | true =>
    show hoM (apS S p c) c nc k = S k
    rw [← e]
    funext i j
    unfold hoM fHM
    rw [uS_n (fun z => h13 z.1)]
    cases decide (uM (apS S p c) 9 c 4 (nI 1) 14 0 c = -1) with
    | true => simp [uM_ap, h0, h9, h14]
    | false => simp [uM_ap, h9]
theorem leM_k {S : Mem} {p nc nm k : Nat} {b : Bool} (h0 : k ≠ 0) (h5 : k ≠ 5) (h6 : k ≠ 6) (h9 : k ≠ 9) (h13 : k ≠ 13) : leM S p nc nm b k = S k := by
  unfold leM
  cases b with
  | false => funext i; exact uM_k (fun z => h5 z.1)
  | true =>
    show cVoidM (leS S p) p nc nm k = S k
    funext i
    unfold cVoidM fHM
    rw [cUnt_fr h6, uS_n (fun z => h13 z.1), vcM_fr h9, leS_k h0 h5]
theorem apG_ok {S : Mem} {p c t : Nat} : apG S p c t = okR S p c t := by
  unfold apG okR
  simp only [ne_eq, decide_not]
theorem okR_18 {S T : Mem} {p c t : Nat} (h : T 18 = S 18) : okR T p c t = okR S p c t := by unfold okR; rw [h]
theorem rAppr_17 {X : Mem} {c j : Nat} (hj : j ≠ 12) : (rAppr X c).2 17 0 j = X 17 0 j := by
  unfold rAppr
  cases decide (X 18 11 c = nI 1) with
  | true => rfl
  | false =>
    cases decide (mGood X c ≤ 1) with
    | true => rfl
    | false =>
      cases decide (X 18 12 c = -1) with
      | true => simp [uM_ap, hj]
      | false => simp [uM_ap, hj]
theorem rAppr_18 {X : Mem} {c i : Nat} (h11 : i ≠ 11) (h12 : i ≠ 12) : (rAppr X c).2 18 i = X 18 i := by
  unfold rAppr
  cases decide (X 18 11 c = nI 1) with
  | true => rfl
  | false =>
    cases decide (mGood X c ≤ 1) with
    | true => rfl
    | false =>
      cases decide (X 18 12 c = -1) with
      | true => funext j; simp [uM_ap, h11, h12]
      | false => funext j; simp [uM_ap, h11, h12]
theorem rAppr_11 {X : Mem} {c d : Nat} (h : (rAppr X c).2 18 11 d ≠ nI 1) : X 18 11 d ≠ nI 1 := by
  revert h
  unfold rAppr
  cases decide (X 18 11 c = nI 1) with
  | true => exact id
  | false =>
    cases decide (mGood X c ≤ 1) with
    | true => exact id
    | false =>
      cases decide (X 18 12 c = -1) with
      | true =>
        by_cases hd : d = c
        · subst hd; simp [uM_ap]
        · simp [uM_ap, hd]
      | false =>
        by_cases hd : d = c
        · subst hd; simp [uM_ap]
        · simp [uM_ap, hd]
theorem halt_le {S T : Mem} {m : Nat} (h5 : T 18 5 = S 18 5) (h11 : ∀ d, T 18 11 d ≠ nI 1 → S 18 11 d ≠ nI 1) (h : mHalt T m = true) : mHalt S m = true := by
  unfold mHalt nhB at h ⊢
  rw [h5] at h
  obtain ⟨i, hi, hb⟩ := anyB_t.mp h
  have h1 := Bool.and_eq_true_iff.mp hb
  exact anyB_t.mpr ⟨i, hi, Bool.and_eq_true_iff.mpr ⟨h1.1, decide_eq_true (h11 _ (of_decide_eq_true h1.2))⟩⟩
theorem TI_ap {S A : Mem} {ng nm nc t pa rk mo kk p c rk' : Nat} (h : INV S ng nm nc t pa rk mo) (hH : LH S nm t) (ht : t ≤ 60 * kk) (hmo : mo ≤ kk) (hkk : kk < 90) (hp : p < 8) (hc : c < nc) (hok : okR S p c t = true) (hA : ∀ k, k ≠ 22 → A k = (rAppr (apG1 (GB (apM S p c nc) (apM S p c nc 9 c 4)) p c t) c).2 k) (hL : LR A ng nm nc t pa rk') (h12 : A 17 0 12 = nI rk') : apM S p c nc 9 c 4 = (rAppr (apG1 (GB (apM S p c nc) (apM S p c nc 9 c 4)) p c t) c).1 ∧ TI A (kk + 1) := by
  have hb := qv_bd h
  obtain ⟨-, hv, hst⟩ := step_approve h (show mo + 1 < 2 ^ 20 by omega) (nI p) (nI c)
  rw [apC_ok h hp hc, hok, ix_nI (show p < 2 ^ 31 by omega), ix_nI (show c < 2 ^ 31 by omega)] at hv hst
  have eB : uM (TT S (bif true then 0 else 2) (uM (apM S p c nc) 19 0 0 (apM S p c nc 9 c 4))) 17 0 0 (nI 0) = GB (apM S p c nc) (apM S p c nc 9 c 4) := rfl
  have k18 : apM S p c nc 18 = S 18 := apM_k (by decide) (by decide) (by decide) (by decide) (by decide) (by decide)
  have k17 : apM S p c nc 17 = S 17 := apM_k (by decide) (by decide) (by decide) (by decide) (by decide) (by decide)
  have hok2 : okR (GB (apM S p c nc) (apM S p c nc 9 c 4)) p c t = true := (okR_18 (GB_18 k18)).trans hok
  rw [eB, ap_ref hp hc hb.2.2, hok2, cond_true] at hv hst
  obtain ⟨e1, e3, e4, e5, e6, e7⟩ := INV_E17 h
  have m17 : ∀ j, j ≠ 0 → j ≠ 12 → A 17 0 j = S 17 0 j := fun j h0 hj => by
    rw [hA 17 (by decide), rAppr_17 hj]
    exact GB_17 k17 h0
  have m18 : ∀ i, i ≠ 11 → i ≠ 12 → i ≠ 13 → i ≠ 14 → A 18 i = S 18 i := fun i h11 h12 h13 h14 => by
    rw [hA 18 (by decide), rAppr_18 h11 h12]
    unfold apG1
    rw [uM_k (by omega), uM_k (by omega), GB_18 k18]
  have m11 : ∀ d, A 18 11 d ≠ nI 1 → S 18 11 d ≠ nI 1 := fun d hd => by
    rw [hA 18 (by decide)] at hd
    have := rAppr_11 hd
    unfold apG1 at this
    rw [uM_k (by omega), uM_k (by omega), GB_18 k18] at this
    exact this
  refine ⟨hv rfl, TI_mk hst (fun k h19 h22 => hA k h22) hL ⟨(m17 4 (by decide) (by decide)).trans e1, (m17 6 (by decide) (by decide)).trans e3, (m17 11 (by decide) (by decide)).trans e4, (m17 1 (by decide) (by decide)).trans e5, (m17 7 (by decide) (by decide)).trans e6, h12⟩ (LH_le hH (fun m _ hh => halt_le (m18 5 (by decide) (by decide) (by decide) (by decide)) m11 hh) (m18 4 (by decide) (by decide) (by decide) (by decide)) (Nat.le_refl _)) (by omega) hmo⟩
theorem per_5 {S : Mem} {ng nm nc t pa rk mo p : Nat} (h : INV S ng nm nc t pa rk mo) (hp : p < 8) : (S 18 1 p = 0 ∧ leC S (nI p) = 0 ∧ cbC S (nI p) = 2) ∨ (S 18 1 p = nI 1 ∧ leC S (nI p) = 2 ∧ cbC S (nI p) = 0) ∨ (S 18 1 p = nI 2 ∧ leC S (nI p) = 2 ∧ cbC S (nI p) = 2) := by
  unfold leC cbC
  rw [rgB_nI (by omega), decide_eq_true hp, ix_nI (by omega)]
  rcases h.2.2.2.2.2.1 p hp with ⟨a1, a2, a3⟩ | ⟨a1, a2, a3⟩ | ⟨a1, a2, a3⟩
  · rw [a1, a2]; exact Or.inl ⟨a3, rfl, rfl⟩
  · rw [a1, a2]; exact Or.inr (Or.inl ⟨a3, rfl, rfl⟩)
  · rw [a1, a2]; exact Or.inr (Or.inr ⟨a3, rfl, rfl⟩)
theorem TI_le {S A : Mem} {ng nm nc t pa rk mo kk p : Nat} {b : Bool} (h : INV S ng nm nc t pa rk mo) (hH : LH S nm t) (ht : t ≤ 60 * kk) (hmo : mo ≤ kk) (hkk : kk < 90) (hp : p < 8) (hs : S 18 1 p = 0) (hA : ∀ k, k ≠ 22 → A k = (bif b then rVoidM (uM (GB (leM S p nc nm b) (leV S p nc b)) 18 1 p (nI 2)) p nc nm else uM (GB (leM S p nc nm b) (leV S p nc b)) 18 1 p (nI 1)) k) (hL : LR A ng nm nc t pa rk) : leV S p nc b = (bif b then nI (vCnt (uM (GB (leM S p nc nm b) (leV S p nc b)) 18 1 p (nI 2)) p nc) else nI 0) ∧ TI A (kk + 1) := by
  have hb := qv_bd h
  have hc : leC S (nI p) = 0 := by
    rcases per_5 h hp with ⟨z1, z2, z3⟩ | ⟨z1, z2, z3⟩ | ⟨z1, z2, z3⟩
    · exact z2
    · rw [hs] at z1; exact absurd z1 (by decide)
    · rw [hs] at z1; exact absurd z1 (by decide)
  obtain ⟨-, hv, hst⟩ := step_leave h (show mo + 1 < 2 ^ 20 by omega) (nI p) b
  rw [hc, ix_nI (show p < 2 ^ 31 by omega)] at hv hst
  have eB : uM (TT S 0 (uM (leM S p nc nm b) 19 0 0 (leV S p nc b))) 17 0 0 (nI 0) = GB (leM S p nc nm b) (leV S p nc b) := rfl
  have k18 : leM S p nc nm b 18 = S 18 := leM_k (by decide) (by decide) (by decide) (by decide) (by decide)
  have k17 : leM S p nc nm b 17 = S 17 := leM_k (by decide) (by decide) (by decide) (by decide) (by decide)
  rw [eB] at hv hst
  generalize hB : GB (leM S p nc nm b) (leV S p nc b) = B at hv hst hA ⊢
  have b18 : B 18 = S 18 := by rw [← hB]; exact GB_18 k18
  have b17 : ∀ j, j ≠ 0 → B 17 0 j = S 17 0 j := fun j hj => by rw [← hB]; exact GB_17 k17 hj
  unfold rLeave at hv hst
  have e1 : decide (B 18 1 p ≤ 0) = true := by rw [b18, hs]; decide
  rw [rgB_nI (show p < 2 ^ 31 by omega), decide_eq_true hp, ix_nI (show p < 2 ^ 31 by omega), e1, cond_true, cond_true] at hv hst
  obtain ⟨e1, e3, e4, e5, e6, e7⟩ := INV_E17 h
  have hLHb : (b = true → ∀ m, m < nm → mHalt A m = true → A 18 4 m = S 17 0 1) := by
    intro hbt m hm hh
    subst hbt
    have a18 : ∀ i, i ≠ 4 → A 18 i = vMem (uM B 18 1 p (nI 2)) p nc 18 i := fun i hi => by
      rw [hA 18 (by decide)]
      exact uS_n (fun z => hi z.2)
    have hh2 : mHalt (vMem (uM B 18 1 p (nI 2)) p nc) m = true := (halt_2 (a18 5 (by decide)) (a18 11 (by decide))).symm.trans hh
    rw [hA 18 (by decide)]
    show rVoidM (uM B 18 1 p (nI 2)) p nc nm 18 4 m = _
    unfold rVoidM
    rw [uS_s]
    have := ovl_in (f := vMem (uM B 18 1 p (nI 2)) p nc 18 4) (b := 0) (v := fun m => bif mHalt (vMem (uM B 18 1 p (nI 2)) p nc) m then vMem (uM B 18 1 p (nI 2)) p nc 17 0 1 else vMem (uM B 18 1 p (nI 2)) p nc 18 4 m) hm
    rw [Nat.zero_add] at this
    refine this.trans ?_
    rw [hh2, cond_true, vMem_fr (by unfold vScr; omega), uM_k (by omega)]
    exact b17 1 (by decide)
  cases b with
  | true =>
    have m17 : ∀ j, j ≠ 0 → A 17 0 j = S 17 0 j := fun j h0 => by
      rw [hA 17 (by decide)]
      show rVoidM (uM B 18 1 p (nI 2)) p nc nm 17 0 j = _
      unfold rVoidM
      rw [uS_n (by omega), vMem_fr (by unfold vScr; omega), uM_k (by omega)]
      exact b17 j h0
    exact ⟨hv rfl, TI_mk hst (fun k h19 h22 => hA k h22) hL ⟨(m17 4 (by decide)).trans e1, (m17 6 (by decide)).trans e3, (m17 11 (by decide)).trans e4, (m17 1 (by decide)).trans e5, (m17 7 (by decide)).trans e6, (m17 12 (by decide)).trans e7⟩ (fun m hm hh => ⟨t, Nat.le_refl _, (hLHb rfl m hm hh).trans e5⟩) (by omega) hmo⟩
  | false =>
    have m17 : ∀ j, j ≠ 0 → A 17 0 j = S 17 0 j := fun j h0 => by
      rw [hA 17 (by decide)]
      show uM B 18 1 p (nI 1) 17 0 j = _
      rw [uM_k (by omega)]
      exact b17 j h0
    have m18 : ∀ i, i ≠ 1 → A 18 i = S 18 i := fun i hi => by
      rw [hA 18 (by decide)]
      show uM B 18 1 p (nI 1) 18 i = _
      rw [uM_k (by omega), b18]
    exact ⟨hv rfl, TI_mk hst (fun k h19 h22 => hA k h22) hL ⟨(m17 4 (by decide)).trans e1, (m17 6 (by decide)).trans e3, (m17 11 (by decide)).trans e4, (m17 1 (by decide)).trans e5, (m17 7 (by decide)).trans e6, (m17 12 (by decide)).trans e7⟩ (LH_2 hH (m18 4 (by decide)) (m18 5 (by decide)) (m18 11 (by decide))) (by omega) hmo⟩
/-! comeBack -/
def coA (S : Mem) (p : Nat) : Mem := uM (uM (uM S 22 0 10 (S 22 0 10 ^^^ (nI 1 <<< (nI p &&& 31)))) 17 0 0 (nI 0)) 18 1 p (nI 0)
theorem coA_gh {S : Mem} {p : Nat} : ∀ b, b ≠ 17 → b ≠ 18 → b ≠ 19 → coA S p b = uM S 22 0 10 (S 22 0 10 ^^^ (nI 1 <<< (nI p &&& 31))) b := fun b h17 h18 _ => by
  funext i j
  simp [coA, uM_ap, h17, h18]
theorem LR_coA {S : Mem} {ng nm nc t pa rk p : Nat} (hL : LR S ng nm nc t pa rk) (hp : p < 5) (hs : S 18 1 p = nI 1) : LR (coA S p) ng nm nc t pa rk := by
  have h := hL
  obtain ⟨⟨⟨q0, q1, q2, q3, q4, q5⟩, hbd⟩, hD, hG, hN, hT, hZ, hC, hCz, hA, hB, hE⟩ := hL
  have e22 : ∀ j, j ≠ 0 → coA S p 22 j = S 22 j := fun j h0 => by funext b; simp [coA, uM_ap, h0]
  have e18 : ∀ j, j ≠ 1 → coA S p 18 j = S 18 j := fun j h0 => by funext b; simp [coA, uM_ap, h0]
  have e0 : ∀ j, j ≠ 10 → coA S p 22 0 j = S 22 0 j := fun j h0 => by simp [coA, uM_ap, h0]
  have e10 : coA S p 22 0 10 = S 22 0 10 ^^^ (nI 1 <<< (nI p &&& 31)) := by simp [coA, uM_ap]
  refine LR_of h ⟨⟨(e0 0 (by decide)).trans q0, (e0 1 (by decide)).trans q1, (e0 2 (by decide)).trans q2, (e0 3 (by decide)).trans q3, (e0 4 (by decide)).trans q4, (e0 5 (by decide)).trans q5⟩, hbd⟩ (fun j hj => ?_) (fun q hq => ?_) (e18 5 (by decide)) (e22 2 (by decide)) ?_ ?_ ?_ ?_ ?_ ?_
  · rw [e0 _ (by omega), e18 0 (by decide)]; exact hD j hj
  · obtain ⟨g1, g2, g3⟩ := hG q hq
    rw [e10, e0 11 (by decide), xor_cnt _ (by omega) (by omega)]
    by_cases hqp : q = p
    · subst hqp
      have z : coA S q 18 1 q = 0 := by simp [coA, uM_ap]; rfl
      rw [z, if_pos rfl, g2, g3, hs]
      exact ⟨Or.inl rfl, by decide, by decide⟩
    · have z : coA S p 18 1 q = S 18 1 q := by simp [coA, uM_ap, hqp]
      rw [z, if_neg hqp]
      exact ⟨g1, g2, g3⟩
  · unfold LN; rw [e22 1 (by decide), e18 2 (by decide), e18 3 (by decide), e18 4 (by decide)]; exact hN
  · unfold LC LC1; rw [e18 7 (by decide), e18 8 (by decide), e18 10 (by decide), e18 11 (by decide), e18 12 (by decide), e22 3 (by decide)]; exact hC
  · unfold LCz; rw [e22 3 (by decide)]; exact hCz
  · unfold LA LA1; rw [e22 4 (by decide), e18 13 (by decide), e18 14 (by decide)]; exact hA
  · unfold LB; rw [e22 5 (by decide), e18 6 (by decide), e18 9 (by decide)]; exact hB
  · unfold LE; rw [e22 6 (by decide), e18 15 (by decide)]; exact hE
theorem TI_co {S : Mem} {ng nm nc t pa rk mo kk p : Nat} (h : INV S ng nm nc t pa rk mo) (hL : LR S ng nm nc t pa rk) (hH : LH S nm t) (ht : t ≤ 60 * kk) (hmo : mo ≤ kk) (hp : p < 5) (hs : S 18 1 p = nI 1) : TI (uM (coA S p) 5 p 0 (nI 1)) (kk + 1) := by
  have hc : cbC S (nI p) = 0 := by
    rcases per_5 h (show p < 8 by omega) with ⟨z1, z2, z3⟩ | ⟨z1, z2, z3⟩ | ⟨z1, z2, z3⟩
    · rw [hs] at z1; exact absurd z1 (by decide)
    · exact z3
    · rw [hs] at z1; exact absurd z1 (by decide)
  have hst := (step_comeBack h (nI p)).2
  rw [hc, ix_nI (show p < 2 ^ 31 by omega)] at hst
  unfold rComeBack at hst
  have e2 : decide (TT S 0 (uM S 5 p 0 (nI 1)) 18 1 p = nI 1) = true := decide_eq_true hs
  rw [rgB_nI (show p < 2 ^ 31 by omega), decide_eq_true (show p < 8 by omega), ix_nI (show p < 2 ^ 31 by omega), e2, cond_true, cond_true] at hst
  obtain ⟨e1, e3, e4, e5, e6, e7⟩ := INV_E17 h
  refine TI_mk hst (fun a h19 h22 => ?_) (LR_fr (LR_coA hL hp hs) rfl rfl) ⟨e1, e3, e4, e5, e6, e7⟩ (LH_2 hH (by funext j; simp [coA, uM_ap]) (by funext j; simp [coA, uM_ap]) (by funext j; simp [coA, uM_ap])) (by omega) hmo
  funext x y
  by_cases h5 : a = 5
  · subst h5; simp [TT, coA, uM_ap]
  · simp [TT, coA, uM_ap, h5, h22]
/-! withdraw -/
def wdA (S : Mem) (c : Nat) : Mem := uM (uM (uM S 22 3 (5 * c + 3) (nI 3)) 17 0 0 (nI 0)) 18 11 c (nI 3)
theorem wdA_gh {S : Mem} {c : Nat} : ∀ b, b ≠ 17 → b ≠ 18 → b ≠ 19 → wdA S c b = uM S 22 3 (5 * c + 3) (nI 3) b := fun b h17 h18 _ => by
  funext i j
  simp [wdA, uM_ap, h17, h18]
theorem LR_wdA {S : Mem} {ng nm nc t pa rk c : Nat} (hL : LR S ng nm nc t pa rk) (hc : c < nc) : LR (wdA S c) ng nm nc t pa rk := by
  refine LR_fr (LR_stC (st := 3) hL hc (by decide) (fun z => absurd z (by decide))) ?_ ?_
  · funext i j; simp [wdA, stC, uM_ap]
  · funext i j; simp [wdA, stC, uM_ap]
theorem wdC_is {S : Mem} {ng nm nc t pa rk mo c : Nat} (h : INV S ng nm nc t pa rk mo) (hc : c < nc) : wdC S (nI c) nc = bif decide (S 18 11 c = 0) then 0 else 2 := by
  have hb := qv_bd h
  have c13 : S 9 c 4 = S 18 11 c := by
    obtain ⟨a, s, k, d1, d2, d3, d4, d5, d6, d7, d8, d9, d10, d11, d12, d13, d14⟩ := h.2.2.2.2.2.2.2.2.1 c hc
    exact d13
  unfold wdC
  rw [rgB_nI (by omega), decide_eq_true hc, ix_nI (by omega), c13, cond_true]
  by_cases hz : S 18 11 c = 0
  · rw [decide_eq_true hz, decide_eq_false (p := S 18 11 c ≠ 0) (fun z => z hz)]; rfl
  · rw [decide_eq_false hz, decide_eq_true (p := S 18 11 c ≠ 0) hz]; rfl
theorem TI_wd {S : Mem} {ng nm nc t pa rk mo kk c : Nat} (h : INV S ng nm nc t pa rk mo) (hL : LR S ng nm nc t pa rk) (hH : LH S nm t) (ht : t ≤ 60 * kk) (hmo : mo ≤ kk) (hc : c < nc) (hs : S 18 11 c = 0) : TI (uM (wdA S c) 9 c 4 (nI 3)) (kk + 1) := by
  have hb := qv_bd h
  have hst := (step_withdraw h (nI c)).2
  rw [wdC_is h hc, hs, ix_nI (show c < 2 ^ 31 by omega)] at hst
  unfold rWithdraw at hst
  have e2 : decide (TT S (bif decide ((0 : Int32) = 0) then 0 else 2) (uM S 9 c 4 (nI 3)) 18 11 c = 0) = true := decide_eq_true hs
  rw [rgB_nI (show c < 2 ^ 31 by omega), decide_eq_true hc, ix_nI (show c < 2 ^ 31 by omega), e2, cond_true, cond_true] at hst
  obtain ⟨e1, e3, e4, e5, e6, e7⟩ := INV_E17 h
  refine TI_mk hst (fun a h19 h22 => ?_) (LR_fr (LR_wdA hL hc) rfl rfl) ⟨e1, e3, e4, e5, e6, e7⟩ (LH_le hH (fun m _ hh => ?_) ?_ (Nat.le_refl _)) (by omega) hmo
  · funext x y
    by_cases h9 : a = 9
    · subst h9; simp [TT, wdA, uM_ap]
    · simp [TT, wdA, uM_ap, h9, h22]
  · refine halt_le ?_ (fun d hd => ?_) hh
    · funext j; simp [wdA, uM_ap]
    · by_cases hdc : d = c
      · rw [hdc, hs]; decide
      · have : uM (wdA S c) 9 c 4 (nI 3) 18 11 d = S 18 11 d := by simp [wdA, uM_ap, hdc]
        rw [this] at hd
        exact hd
  · funext j; simp [wdA, uM_ap]
