/-! a turn: work, moveMachine -/
theorem bI_in {a b : Bool} (h : bI a = bI b) : a = b := by cases a <;> cases b <;> first | rfl | exact absurd h (by decide)
theorem busy_c {S : Mem} {ng nm nc t pa rk mo m : Nat} (h : INV S ng nm nc t pa rk mo) (hm : m < nm) : decide (S 0 0 0 < S 6 m 2) = decide (S 17 0 1 < S 18 4 m) := by
  have := bI_in (qv_busy h hm)
  rw [ix_nI (by have := qv_bd h; omega)] at this
  exact this
theorem halt_c {S : Mem} {ng nm nc t pa rk mo m : Nat} (h : INV S ng nm nc t pa rk mo) (hm : m < nm) : (cNear S nc m (clay S m)).isSome = mHalt S m := by
  have := bI_in (qv_halt h hm)
  rw [ix_nI (by have := qv_bd h; omega)] at this
  exact this
theorem woC_is {S : Mem} {ng nm nc t pa rk mo m d : Nat} (h : INV S ng nm nc t pa rk mo) (hm : m < nm) (h1 : 1 ≤ d) (h30 : d ≤ 30) : woC S (nI m) (nI d) nm nc = bif decide (S 17 0 1 < S 18 4 m) || mHalt S m then 3 else 0 := by
  have hb := qv_bd h
  unfold woC
  rw [rgB_nI (by omega), decide_eq_true hm, toInt_nI (by omega), decide_eq_true (p := (1 : Int) ≤ ((d : Nat) : Int) ∧ ((d : Nat) : Int) ≤ 30) (by omega), ix_nI (by omega), busy_c h hm, halt_c h hm]
  rfl
def woA (S : Mem) (m u : Nat) : Mem := uM (uM (uM S 22 1 (7 + m) (nI u)) 17 0 0 (nI 0)) 18 4 m (nI u)
theorem woA_gh {S : Mem} {m u : Nat} : ∀ b, b ≠ 17 → b ≠ 18 → b ≠ 19 → woA S m u b = uM S 22 1 (7 + m) (nI u) b := fun b h17 h18 _ => by
  funext i j
  simp [woA, uM_ap, h17, h18]
theorem LR_woA {S : Mem} {ng nm nc t pa rk m u : Nat} (hL : LR S ng nm nc t pa rk) (hm : m < nm) (hu : u < 2 ^ 21) : LR (woA S m u) ng nm nc t pa rk := by
  have h := hL
  obtain ⟨hQ, hD, hG, hN, hT, hZ, hC, hCz, hA, hB, hE⟩ := hL
  have hnm3 := hQ.2.2.2.1
  have hng4 := hQ.2.2.1
  have e22 : ∀ i, i ≠ 1 → woA S m u 22 i = S 22 i := fun i h0 => by funext j; simp [woA, uM_ap, h0]
  have e18 : ∀ i, i ≠ 4 → woA S m u 18 i = S 18 i := fun i h0 => by funext j; simp [woA, uM_ap, h0]
  have e1 : ∀ j, j ≠ 7 + m → woA S m u 22 1 j = S 22 1 j := fun j h0 => by simp [woA, uM_ap, h0]
  have e4 : ∀ j, j ≠ m → woA S m u 18 4 j = S 18 4 j := fun j h0 => by simp [woA, uM_ap, h0]
  refine LR_of h (LQ_fr hQ (e22 0 (by decide))) ?_ ?_ (e18 5 (by decide)) (e22 2 (by decide)) ⟨fun g hg => ?_, fun i hi => ?_, fun i hi => ?_⟩ ?_ ?_ ?_ ?_ ?_
  · unfold LD; rw [e22 0 (by decide), e18 0 (by decide)]; exact hD
  · unfold LG; rw [e22 0 (by decide), e18 1 (by decide)]; exact hG
  · rw [e1 _ (by omega), e18 2 (by decide)]; exact hN.1 g hg
  · rw [e1 _ (by omega), e18 3 (by decide)]; exact hN.2.1 i hi
  · by_cases him : i = m
    · subst him
      exact ⟨u, u, hu, hu, by simp [woA, uM_ap], by simp [woA, uM_ap], Or.inl rfl⟩
    · rw [e1 _ (by omega), e4 _ him]; exact hN.2.2 i hi
  · unfold LC LC1; rw [e18 7 (by decide), e18 8 (by decide), e18 10 (by decide), e18 11 (by decide), e18 12 (by decide), e22 3 (by decide)]; exact hC
  · unfold LCz; rw [e22 3 (by decide)]; exact hCz
  · unfold LA LA1; rw [e22 4 (by decide), e18 13 (by decide), e18 14 (by decide)]; exact hA
  · unfold LB; rw [e22 5 (by decide), e18 6 (by decide), e18 9 (by decide)]; exact hB
  · unfold LE; rw [e22 6 (by decide), e18 15 (by decide)]; exact hE
theorem inR_d {d : Nat} (h1 : 1 ≤ d) (h : d ≤ 30) : inR (nI d) (nI 1) (nI 30) = true := by
  rw [inR_n 1 30 (by omega) (by omega), toInt_nI (by omega)]
  exact decide_eq_true (by omega)
theorem TI_wo {S : Mem} {ng nm nc t pa rk mo kk m d : Nat} (h : INV S ng nm nc t pa rk mo) (hL : LR S ng nm nc t pa rk) (hH : LH S nm t) (ht : t ≤ 60 * kk) (hmo : mo ≤ kk) (hm : m < nm) (h1 : 1 ≤ d) (h30 : d ≤ 30) (hb : decide (S 17 0 1 < S 18 4 m) = false) (hh : mHalt S m = false) : TI (uM (woA S m (t + d)) 6 m 2 (nI (t + d))) (kk + 1) := by
  have hbd := qv_bd h
  have hst := (step_work h (nI m) (nI d)).2.2
  rw [woC_is h hm h1 h30, hb, hh, ix_nI (show m < 2 ^ 31 by omega), h.1.2.2.2.1.1, nI_add] at hst
  unfold rWork at hst
  obtain ⟨e1, e3, e4, e5, e6, e7⟩ := INV_E17 h
  have s1 : uM (TT S (bif false || false then 3 else 0) (uM (uM S 6 m 2 (nI (t + d))) 19 0 0 (nI (t + d)))) 17 0 0 (nI 0) 17 0 1 = nI t := e5
  have s2 : uM (TT S (bif false || false then 3 else 0) (uM (uM S 6 m 2 (nI (t + d))) 19 0 0 (nI (t + d)))) 17 0 0 (nI 0) 18 4 m = S 18 4 m := rfl
  have s3 : mHalt (uM (TT S (bif false || false then 3 else 0) (uM (uM S 6 m 2 (nI (t + d))) 19 0 0 (nI (t + d)))) 17 0 0 (nI 0)) m = false := hh
  have hb2 : decide (nI t < S 18 4 m) = false := by rw [← e5]; exact hb
  rw [rgB_nI (show m < 2 ^ 31 by omega), decide_eq_true hm, inR_d h1 h30, ix_nI (show m < 2 ^ 31 by omega), s1, s2, s3, hb2, nI_add] at hst
  have hLT := h.2.1.2.2.2.1.2
  refine TI_mk hst (fun a h19 h22 => ?_) (LR_fr (LR_woA (u := t + d) hL hm (by omega)) rfl rfl) ⟨e1, e3, e4, e5, e6, e7⟩ (fun m' hm' hh' => ?_) (by omega) hmo
  · funext x y
    by_cases h6 : a = 6
    · subst h6; simp [TT, woA, uM_ap]
    · simp [TT, woA, uM_ap, h6, h19, h22]
  · have hh2 : mHalt S m' = true := by
      rw [← hh']
      exact (halt_2 (by funext j; simp [woA, uM_ap]) (by funext j; simp [woA, uM_ap])).symm
    have hne : m' ≠ m := fun z => by rw [z, hh] at hh2; cases hh2
    obtain ⟨v, v1, v2⟩ := hH m' hm' hh2
    exact ⟨v, v1, by simp [woA, uM_ap, hne]; exact v2⟩
theorem mmC_is {S : Mem} {ng nm nc t pa rk mo m g : Nat} (h : INV S ng nm nc t pa rk mo) (hm : m < nm) (hg : g < ng) : mmC S (nI m) (nI g) ng nm = bif decide (S 17 0 1 < S 18 4 m) then 2 else 0 := by
  have hb := qv_bd h
  unfold mmC
  rw [rgB_nI (by omega), decide_eq_true hm, rgB_nI (by omega), decide_eq_true hg, ix_nI (by omega), busy_c h hm]
  rfl
def mvB (S : Mem) (m g : Nat) : Mem := uM (uM (egM S m (10 + m) g) 19 0 0 (S 6 m 1)) 17 0 0 (nI 0)
theorem mvB_gh {S : Mem} {m g : Nat} : ∀ b, b ≠ 17 → b ≠ 18 → b ≠ 19 → mvB S m g b = egM S m (10 + m) g b := fun b h17 h18 h19 => by
  funext i j
  simp [mvB, uM_ap, h17, h19]
theorem mvB_18 {S : Mem} {m g : Nat} : mvB S m g 18 = S 18 := eg_k (S := S) (i := m) (own := 10 + m) (g := g) (k := 18) (by decide) (by decide) (by decide)
theorem mvB_22 {S : Mem} {m g : Nat} : mvB S m g 22 = S 22 := eg_k (S := S) (i := m) (own := 10 + m) (g := g) (k := 22) (by decide) (by decide) (by decide)
theorem mvB_17 {S : Mem} {m g j : Nat} (hj : j ≠ 0) : mvB S m g 17 0 j = S 17 0 j := by
  have := congrFun (congrFun (eg_k (S := S) (i := m) (own := 10 + m) (g := g) (k := 17) (by decide) (by decide) (by decide)) 0) j
  rw [← this]
  simp [mvB, uM_ap, hj]
theorem RI_mvB {S : Mem} {ng nm nc t pa m g : Nat} (hR : RI S ng nm nc t pa) : RI (mvB S m g) ng nm nc t pa := by
  have e1 := mvB_17 (S := S) (m := m) (g := g) (show 1 ≠ 0 by decide)
  have e4 := mvB_17 (S := S) (m := m) (g := g) (show 4 ≠ 0 by decide)
  have e6 := mvB_17 (S := S) (m := m) (g := g) (show 6 ≠ 0 by decide)
  have e7 := mvB_17 (S := S) (m := m) (g := g) (show 7 ≠ 0 by decide)
  have e11 := mvB_17 (S := S) (m := m) (g := g) (show 11 ≠ 0 by decide)
  unfold RI TK grp at hR ⊢
  rw [e1, e4, e6, e7, e11, mvB_18]
  exact hR
theorem mvV_no {S : Mem} {m g ng q : Nat} (h : mvV S m g ng q ≠ -1) : mvV S m g ng q = S 18 5 q := by
  unfold mvV at h ⊢
  by_cases hq : 66 * m ≤ q ∧ q < 66 * m + 6 * ng ∧ (q - 66 * m) / 6 ∉ pth (S 18 2) g
  · rw [if_pos hq] at h; exact absurd rfl h
  · rw [if_neg hq]
theorem mv_halt {S T : Mem} {m g ng m' : Nat} (h5 : T 18 5 = mvV S m g ng) (h11 : T 18 11 = S 18 11) (h : mHalt T m' = true) : mHalt S m' = true := by
  unfold mHalt nhB at h ⊢
  rw [h5, h11] at h
  obtain ⟨i, hi, hb⟩ := anyB_t.mp h
  refine anyB_t.mpr ⟨i, hi, ?_⟩
  have h1 := of_decide_eq_true (Bool.and_eq_true_iff.mp hb).1
  rw [mvV_no h1] at hb
  exact hb
theorem TI_mv {S : Mem} {ng nm nc t pa rk mo kk m g : Nat} (h : INV S ng nm nc t pa rk mo) (hL : LR S ng nm nc t pa rk) (hH : LH S nm t) (ht : t ≤ 60 * kk) (hmo : mo ≤ kk) (hm : m < nm) (hg : g < ng) (hb : decide (S 17 0 1 < S 18 4 m) = false) : TI (mvA (mvB S m g) m g ng) (kk + 1) := by
  have hbd := qv_bd h
  have hst := (step_move h (nI m) (nI g)).2.2
  rw [mmC_is h hm hg, hb, ix_nI (show m < 2 ^ 31 by omega), ix_nI (show g < 2 ^ 31 by omega)] at hst
  have eB : uM (TT S (bif false then 2 else 0) (uM (egM S m (10 + m) g) 19 0 0 (S 6 m 1))) 17 0 0 (nI 0) = mvB S m g := rfl
  rw [eB] at hst
  unfold rMove at hst
  have hb2 : decide (mvB S m g 17 0 1 < mvB S m g 18 4 m) = false := by rw [mvB_17 (by decide), mvB_18]; exact hb
  rw [rgB_nI (show m < 2 ^ 31 by omega), decide_eq_true hm, rgB_nI (show g < 2 ^ 31 by omega), decide_eq_true hg, ix_nI (show m < 2 ^ 31 by omega), ix_nI (show g < 2 ^ 31 by omega), hb2] at hst
  obtain ⟨e1, e3, e4, e5, e6, e7⟩ := INV_E17 h
  have hLM := LR_mvA (S := mvB S m g) (LR_fr hL mvB_18 mvB_22) (RI_mvB h.2.1) hm hg
  have m17 : ∀ j, j ≠ 0 → mvA (mvB S m g) m g ng 17 0 j = S 17 0 j := fun j hj => by
    rw [← mvB_17 (S := S) (m := m) (g := g) hj]
    simp [mvA, uS_ap, uM_ap]
  refine TI_mk hst (fun a h19 h22 => ?_) hLM ⟨(m17 4 (by decide)).trans e1, (m17 6 (by decide)).trans e3, (m17 11 (by decide)).trans e4, (m17 1 (by decide)).trans e5, (m17 7 (by decide)).trans e6, (m17 12 (by decide)).trans e7⟩ (LH_le hH (fun m' _ hh => ?_) ?_ (Nat.le_refl _)) (by omega) hmo
  · funext x
    unfold mvA
    rw [uS_n (fun z => h22 z.1), uM_k (fun z => h22 z.1)]
    rfl
  · refine mv_halt (S := mvB S m g) (m := m) (g := g) (ng := ng) ?_ ?_ hh |> fun z => by rw [← halt_18 mvB_18]; exact z
    · funext j; simp [mvA, uS_ap, uM_ap]
    · funext j; simp [mvA, uS_ap, uM_ap]
  · rw [← mvB_18 (S := S) (m := m) (g := g)]
    funext j; simp [mvA, uS_ap, uM_ap]
