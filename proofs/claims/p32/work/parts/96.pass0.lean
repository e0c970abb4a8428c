/-! a turn: addGroup, addMachine, pass -/
def grA (S : Mem) (ng g : Nat) : Mem := uM (uM (uM (uM (uM S 22 1 ng (nI g)) 22 0 2 (nI (ng + 1))) 17 0 0 (nI 0)) 18 2 ng (nI g)) 17 0 4 (nI (ng + 1))
theorem grA_gh {S : Mem} {ng g : Nat} : ∀ b, b ≠ 17 → b ≠ 18 → b ≠ 19 → grA S ng g b = uM (uM S 22 1 ng (nI g)) 22 0 2 (nI (ng + 1)) b := fun b h17 h18 _ => by
  funext i j
  simp [grA, uM_ap, h17, h18]
theorem LR_grA {S : Mem} {ng nm nc t pa rk g : Nat} (hL : LR S ng nm nc t pa rk) (hn : ng < 4) : LR (grA S ng g) (ng + 1) nm nc t pa rk := by
  obtain ⟨⟨⟨q0, q1, q2, q3, q4, q5⟩, b1, b2, b3, b4, b5, b6, b7⟩, hD, hG, hN, hT, hZ, hC, hCz, hA, hB, hE⟩ := hL
  have e22 : ∀ j, j ≠ 0 → j ≠ 1 → grA S ng g 22 j = S 22 j := fun j h0 h1 => by funext b; simp [grA, uM_ap, h0, h1]
  have e18 : ∀ j, j ≠ 2 → grA S ng g 18 j = S 18 j := fun j h0 => by funext b; simp [grA, uM_ap, h0]
  have e0 : ∀ j, j ≠ 2 → grA S ng g 22 0 j = S 22 0 j := fun j h0 => by simp [grA, uM_ap, h0]
  have e1 : ∀ j, j ≠ ng → grA S ng g 22 1 j = S 22 1 j := fun j h0 => by simp [grA, uM_ap, h0]
  have e2 : ∀ j, j ≠ ng → grA S ng g 18 2 j = S 18 2 j := fun j h0 => by simp [grA, uM_ap, h0]
  refine ⟨⟨⟨(e0 0 (by decide)).trans q0, (e0 1 (by decide)).trans q1, by simp [grA, uM_ap], (e0 3 (by decide)).trans q3, (e0 4 (by decide)).trans q4, (e0 5 (by decide)).trans q5⟩, by omega, by omega, b3, b4, b5, b6, b7⟩, fun j hj => ?_, ?_, ⟨fun i hi => ?_, fun m hm => ?_, fun m hm => ?_⟩, ?_, ?_, fun c hc => ?_, ?_, ?_, ?_, ?_⟩
  · rw [e0 _ (by omega), e18 0 (by decide)]; exact hD j hj
  · unfold LG; rw [e0 10 (by decide), e0 11 (by decide), e18 1 (by decide)]; exact hG
  · by_cases hin : i = ng
    · rw [hin]; simp [grA, uM_ap]
    · rw [e1 _ hin, e2 _ hin]; exact hN.1 i (by omega)
  · rw [e1 _ (by omega), e18 3 (by decide)]; exact hN.2.1 m hm
  · rw [e1 _ (by omega), e18 4 (by decide)]; exact hN.2.2 m hm
  · unfold LT; rw [e22 2 (by decide) (by decide), e18 5 (by decide)]; exact hT
  · unfold LZ; rw [e18 5 (by decide)]; exact hZ
  · obtain ⟨p', k', w', st, a1, a2, a3, a4⟩ := hC c hc
    unfold LC1
    rw [e18 7 (by decide), e18 8 (by decide), e18 10 (by decide), e18 11 (by decide), e18 12 (by decide), e22 3 (by decide) (by decide)]
    exact ⟨p', k', w', st, a1, fun z => by have := a2 z; omega, a3, a4⟩
  · unfold LCz; rw [e22 3 (by decide) (by decide)]; exact hCz
  · unfold LA LA1; rw [e22 4 (by decide) (by decide), e18 13 (by decide), e18 14 (by decide)]; exact hA
  · unfold LB; rw [e22 5 (by decide) (by decide), e18 6 (by decide), e18 9 (by decide)]; exact hB
  · unfold LE; rw [e22 6 (by decide) (by decide), e18 15 (by decide)]; exact hE
theorem agC_0 {ng g : Nat} (hn : ng < 4) (hg : g < ng) : agC (nI g) ng = 0 := by
  unfold agC
  rw [rgB_nI (by omega), decide_eq_true hg, decide_eq_false (show ¬ 10 ≤ ng by omega)]; rfl
theorem TI_gr {S : Mem} {ng nm nc t pa rk mo kk g : Nat} (h : INV S ng nm nc t pa rk mo) (hL : LR S ng nm nc t pa rk) (hH : LH S nm t) (ht : t ≤ 60 * kk) (hmo : mo ≤ kk) (hn : ng < 4) (hg : g < ng) : TI (uM (uM (grA S ng g) 1 1 ng (nI g)) 0 0 5 (nI (ng + 1))) (kk + 1) := by
  have hst := (step_addGroup h (nI g)).2.2
  rw [agC_0 hn hg] at hst
  unfold rAddGroup at hst
  rw [rgB_nI (show g < 2 ^ 31 by omega), decide_eq_true hg, decide_eq_false (show ¬ ng = 10 by omega)] at hst
  obtain ⟨e1, e3, e4, e5, e6, e7⟩ := INV_E17 h
  refine TI_mk hst (fun a h19 h22 => ?_) (LR_fr (LR_grA (g := g) hL hn) rfl rfl) ⟨by simp [grA, uM_ap], e3, e4, e5, e6, e7⟩ (LH_2 hH (by funext j; simp [grA, uM_ap]) (by funext j; simp [grA, uM_ap]) (by funext j; simp [grA, uM_ap])) (by omega) hmo
  funext x y
  by_cases h1 : a = 1
  · subst h1; simp [TT, grA, uM_ap]
  · by_cases h0 : a = 0
    · subst h0; simp [TT, grA, uM_ap]
    · simp [TT, grA, uM_ap, h0, h1, h19, h22]
def mcA (S : Mem) (nm g : Nat) : Mem := uM (uM (uM (uM (uM S 22 1 (4 + nm) (nI g)) 22 0 3 (nI (nm + 1))) 17 0 0 (nI 0)) 18 3 nm (nI g)) 17 0 6 (nI (nm + 1))
theorem mcA_gh {S : Mem} {nm g : Nat} : ∀ b, b ≠ 17 → b ≠ 18 → b ≠ 19 → mcA S nm g b = uM (uM S 22 1 (4 + nm) (nI g)) 22 0 3 (nI (nm + 1)) b := fun b h17 h18 _ => by
  funext i j
  simp [mcA, uM_ap, h17, h18]
theorem LR_mcA {S : Mem} {ng nm nc t pa rk g : Nat} (hL : LR S ng nm nc t pa rk) (hn : nm < 3) : LR (mcA S nm g) ng (nm + 1) nc t pa rk := by
  obtain ⟨⟨⟨q0, q1, q2, q3, q4, q5⟩, b1, b2, b3, b4, b5, b6, b7⟩, hD, hG, hN, hT, hZ, hC, hCz, hA, hB, hE⟩ := hL
  have e22 : ∀ j, j ≠ 0 → j ≠ 1 → mcA S nm g 22 j = S 22 j := fun j h0 h1 => by funext b; simp [mcA, uM_ap, h0, h1]
  have e18 : ∀ j, j ≠ 3 → mcA S nm g 18 j = S 18 j := fun j h0 => by funext b; simp [mcA, uM_ap, h0]
  have e0 : ∀ j, j ≠ 3 → mcA S nm g 22 0 j = S 22 0 j := fun j h0 => by simp [mcA, uM_ap, h0]
  have e1 : ∀ j, j ≠ 4 + nm → mcA S nm g 22 1 j = S 22 1 j := fun j h0 => by simp [mcA, uM_ap, h0]
  have e3 : ∀ j, j ≠ nm → mcA S nm g 18 3 j = S 18 3 j := fun j h0 => by simp [mcA, uM_ap, h0]
  refine ⟨⟨⟨(e0 0 (by decide)).trans q0, (e0 1 (by decide)).trans q1, (e0 2 (by decide)).trans q2, by simp [mcA, uM_ap], (e0 4 (by decide)).trans q4, (e0 5 (by decide)).trans q5⟩, b1, b2, by omega, b4, b5, b6, b7⟩, fun j hj => ?_, ?_, ⟨fun i hi => ?_, fun m hm => ?_, fun m hm => ?_⟩, ?_, ?_, fun c hc => ?_, ?_, ?_, ?_, ?_⟩
  · rw [e0 _ (by omega), e18 0 (by decide)]; exact hD j hj
  · unfold LG; rw [e0 10 (by decide), e0 11 (by decide), e18 1 (by decide)]; exact hG
  · rw [e1 _ (by omega), e18 2 (by decide)]; exact hN.1 i hi
  · by_cases hin : m = nm
    · rw [hin]; simp [mcA, uM_ap]
    · rw [e1 _ (by omega), e3 _ hin]; exact hN.2.1 m (by omega)
  · rw [e1 _ (by omega), e18 4 (by decide)]; exact hN.2.2 m hm
  · unfold LT; rw [e22 2 (by decide) (by decide), e18 5 (by decide)]; exact hT
  · unfold LZ; rw [e18 5 (by decide)]; exact hZ
  · obtain ⟨p', k', w', st, a1, a2, a3, a4⟩ := hC c hc
    unfold LC1
    rw [e18 7 (by decide), e18 8 (by decide), e18 10 (by decide), e18 11 (by decide), e18 12 (by decide), e22 3 (by decide) (by decide)]
    exact ⟨p', k', w', st, a1, a2, fun z => by have := a3 z; omega, a4⟩
  · unfold LCz; rw [e22 3 (by decide) (by decide)]; exact hCz
  · unfold LA LA1; rw [e22 4 (by decide) (by decide), e18 13 (by decide), e18 14 (by decide)]; exact hA
  · unfold LB; rw [e22 5 (by decide) (by decide), e18 6 (by decide), e18 9 (by decide)]; exact hB
  · unfold LE; rw [e22 6 (by decide) (by decide), e18 15 (by decide)]; exact hE
theorem amC_0 {ng nm g : Nat} (hn : nm < 3) (hng : ng ≤ 4) (hg : g < ng) : amC (nI g) ng nm = 0 := by
  unfold amC
  rw [rgB_nI (by omega), decide_eq_true hg, decide_eq_false (show ¬ 12 ≤ nm by omega)]; rfl
theorem eg_cg {X S : Mem} {i own g : Nat} (h1 : X 1 = S 1) (h6 : X 6 = S 6) (h7 : X 7 = S 7) (h8 : X 8 = S 8) : ∀ k, k = 6 ∨ k = 7 ∨ k = 8 → egM X i own g k = egM S i own g k := by
  have hd : ∀ L, dpV X i L 10 = dpV S i L 10 := fun L => by unfold dpV; rw [h8]
  intro k hk
  unfold egM EM
  rw [h1, h7, hd]
  funext a b
  rcases hk with rfl | rfl | rfl
  · simp [uS_ap, uM_ap, h6]
  · simp [uS_ap, uM, h7]
  · simp [uS_ap, uM, h8]
theorem TI_mc {S : Mem} {ng nm nc t pa rk mo kk g : Nat} (h : INV S ng nm nc t pa rk mo) (hL : LR S ng nm nc t pa rk) (hH : LH S nm t) (ht : t ≤ 60 * kk) (hmo : mo ≤ kk) (hn : nm < 3) (hg : g < ng) : TI (amM (mcA S nm g) nm g) (kk + 1) := by
  have hng := hL.1.2.2.1
  have hst := (step_addMachine h (nI g)).2.2
  rw [amC_0 hn hng hg, ix_nI (show g < 2 ^ 31 by omega)] at hst
  unfold rAddMachine at hst
  rw [rgB_nI (show g < 2 ^ 31 by omega), decide_eq_true hg, decide_eq_false (show ¬ nm = 12 by omega)] at hst
  obtain ⟨e1, e3, e4, e5, e6, e7⟩ := INV_E17 h
  have k17 : amM (mcA S nm g) nm g 17 = mcA S nm g 17 := funext fun a => (uM_k (by omega)).trans (congrFun (eg_k (by decide) (by decide) (by decide)) a)
  have k18 : amM (mcA S nm g) nm g 18 = mcA S nm g 18 := funext fun a => (uM_k (by omega)).trans (congrFun (eg_k (by decide) (by decide) (by decide)) a)
  have k22 : amM (mcA S nm g) nm g 22 = mcA S nm g 22 := funext fun a => (uM_k (by omega)).trans (congrFun (eg_k (by decide) (by decide) (by decide)) a)
  have cg := eg_cg (X := mcA S nm g) (S := S) (i := nm) (own := 10 + nm) (g := g) rfl rfl rfl rfl
  refine TI_mk hst (fun a h19 h22 => ?_) (LR_fr (LR_mcA (g := g) hL hn) k18 k22) ⟨by rw [k17]; exact e1, by rw [k17]; simp [mcA, uM_ap], by rw [k17]; exact e4, by rw [k17]; exact e5, by rw [k17]; exact e6, by rw [k17]; exact e7⟩ (fun m hm hh => ?_) (by omega) hmo
  · show amM (mcA S nm g) nm g a = uM (uM (uM (uM (uM (egM S nm (10 + nm) g) 0 0 7 (nI (nm + 1))) 19 0 0 (nI nm)) 17 0 0 (nI 0)) 18 3 nm (nI g)) 17 0 6 (nI (nm + 1)) a
    unfold amM
    by_cases hk : a = 6 ∨ a = 7 ∨ a = 8
    · have c1 := cg a hk
      have n0 : a ≠ 0 := by omega
      have n17 : a ≠ 17 := by omega
      have n18 : a ≠ 18 := by omega
      funext x y
      have c2 := congrFun (congrFun c1 x) y
      simp [uM_ap, n0, n17, n18, h19, c2]
    · have c1 := eg_k (S := mcA S nm g) (i := nm) (own := 10 + nm) (g := g) (k := a) (by omega) (by omega) (by omega)
      have c2 := eg_k (S := S) (i := nm) (own := 10 + nm) (g := g) (k := a) (by omega) (by omega) (by omega)
      funext x y
      have c3 := congrFun (congrFun c1 x) y
      have c4 := congrFun (congrFun c2 x) y
      by_cases h0 : a = 0
      · subst h0
        simp only [uM_ap]
        rw [c3, c4]
        simp [mcA, uM_ap]
      · simp only [uM_ap]
        rw [c3, c4]
        simp [mcA, uM_ap, h0, h19, h22]
  · have k5 : amM (mcA S nm g) nm g 18 5 = S 18 5 := by rw [k18]; funext j; simp [mcA, uM_ap]
    have k11 : amM (mcA S nm g) nm g 18 11 = S 18 11 := by rw [k18]; funext j; simp [mcA, uM_ap]
    have k4 : amM (mcA S nm g) nm g 18 4 = S 18 4 := by rw [k18]; funext j; simp [mcA, uM_ap]
    rw [halt_2 k5 k11] at hh
    rw [k4]
    by_cases hmn : m = nm
    · exfalso
      subst hmn
      unfold mHalt at hh
      obtain ⟨j, hj, hb⟩ := anyB_t.mp hh
      obtain ⟨t1, t2⟩ := h.2.2.2.2.2.2.2.1
      have e := t1 m (by omega) (j / 6) (by omega) (j % 6) (by omega)
      have hq : csl m (j / 6) * 6 + j % 6 < 132 := by unfold csl; split <;> omega
      have e8 : S 8 m (csl m (j / 6) * 6 + j % 6) = -1 := by
        rcases t2 m (by omega) _ hq with z | ⟨z, -⟩
        · exact z
        · omega
      rw [show 66 * m + j = 6 * (11 * m + j / 6) + j % 6 by omega, e, e8] at hb
      cases hb
    · exact hH m (by omega) hh
/-! pass -/
def PHr (S T : Mem) : Prop := (∀ i, i ≠ 5 → T 18 i = S 18 i) ∧ ∀ q, T 18 5 q = S 18 5 q ∨ nhB S (T 18 5 q) = false
theorem nhB_11 {S T : Mem} (h : T 18 11 = S 18 11) (x : Int32) : nhB T x = nhB S x := by unfold nhB; rw [h]
theorem PHr_r {S : Mem} : PHr S S := ⟨fun _ _ => rfl, fun _ => Or.inl rfl⟩
theorem PHr_t {S T U : Mem} (h : PHr S T) (h2 : PHr T U) : PHr S U := by
  refine ⟨fun i hi => (h2.1 i hi).trans (h.1 i hi), fun q => ?_⟩
  rcases h2.2 q with z | z
  · rcases h.2 q with w | w
    · exact Or.inl (z.trans w)
    · exact Or.inr (by rw [z]; exact w)
  · exact Or.inr (by rw [← nhB_11 (h.1 11 (by decide))]; exact z)
theorem PHr_halt {S T : Mem} {m : Nat} (h : PHr S T) (hh : mHalt T m = true) : mHalt S m = true := by
  unfold mHalt at hh ⊢
  obtain ⟨i, hi, hb⟩ := anyB_t.mp hh
  rw [nhB_11 (h.1 11 (by decide))] at hb
  refine anyB_t.mpr ⟨i, hi, ?_⟩
  rcases h.2 (66 * m + i) with z | z
  · rw [← z]; exact hb
  · rw [z] at hb; cases hb
theorem top_nh {S : Mem} {nc m s k : Nat} (hn : nc ≤ 40) : nhB S (oI (mTop S nc m s k)) = false := by
  cases h : mTop S nc m s k with
  | none => rfl
  | some c =>
    obtain ⟨h0, h1⟩ := bestN_lt h
    unfold mOkI at h1
    have h2 := of_decide_eq_true (Bool.and_eq_true_iff.mp h1).1
    show nhB S (nI c) = false
    unfold nhB
    rw [nI_clamp (by omega), h2, decide_eq_false (p := nI 1 ≠ nI 1) (fun z => z rfl), Bool.and_false]
theorem PHr_take {S : Mem} {nc m s : Nat} (hn : nc ≤ 40) : PHr S (mTakeAt S nc m s) := by
  refine ⟨fun i hi => uS_n (fun z => hi z.2), fun q => ?_⟩
  have e : mTakeAt S nc m s 18 5 q = ovl (S 18 5) (6 * (11 * m + s)) 6 (fun k => oI (mTop S nc m s k)) q := congrFun uS_s q
  rw [e]
  unfold ovl
  by_cases hq : 6 * (11 * m + s) ≤ q ∧ q < 6 * (11 * m + s) + 6
  · rw [if_pos hq]; exact Or.inr (top_nh hn)
  · rw [if_neg hq]; exact Or.inl rfl
theorem PHr_back {S : Mem} {nc m s : Nat} (hn : nc ≤ 40) : PHr S (mBackAt S nc m s) := by
  refine ⟨fun i hi => uS_n (fun z => hi z.2), fun q => ?_⟩
  have e : mBackAt S nc m s 18 5 q = gbV S nc m s 6 q := congrFun uS_s q
  rw [e]
  unfold gbV
  by_cases hq : 6 * (11 * m + s) ≤ q ∧ q < 6 * (11 * m + s) + 6 ∧ nhB S (S 18 5 q) = true
  · rw [if_pos hq]; exact Or.inr (top_nh hn)
  · rw [if_neg hq]; exact Or.inl rfl
theorem PHr_st {nc m : Nat} {q : Mem × Nat × Nat} (hn : nc ≤ 40) : PHr q.1 (pSt nc q m).1 := by
  unfold pSt
  cases mHalt q.1 m with
  | true => exact PHr_back hn
  | false =>
    rw [cond_false]
    cases decide (q.1 17 0 1 < q.1 18 4 m) with
    | true => exact PHr_r
    | false =>
      rw [cond_false]
      cases decide (q.2.1 = 0) with
      | true => exact PHr_r
      | false =>
        rw [cond_false]
        cases decide (mFar q.1 nc m (grp q.1 m) ≠ 0) with
        | true =>
          show PHr q.1 (mTake q.1 nc m (grp q.1 m))
          unfold mTake
          cases mFar q.1 nc m (grp q.1 m) with
          | zero => exact PHr_r
          | succ j => exact PHr_take hn
        | false => exact PHr_r
theorem PHr_sts {nc : Nat} {q : Mem × Nat × Nat} (hn : nc ≤ 40) : ∀ n, PHr q.1 (pSts nc q n).1
  | 0 => PHr_r
  | n + 1 => PHr_t (PHr_sts hn n) (PHr_st hn)
theorem PHr_days {S : Mem} {nc nm pa : Nat} (hn : nc ≤ 40) : ∀ n, PHr S (rDays S nc nm pa n).1
  | 0 => PHr_r
  | n + 1 => by
    refine PHr_t (PHr_days (nm := nm) (pa := pa) hn n) ?_
    have h := PHr_sts hn (nc := nc) (q := (uM (rDays S nc nm pa n).1 17 0 1 ((rDays S nc nm pa n).1 17 0 1 + nI 1), pa, 0)) nm
    exact PHr_t ⟨fun i _ => uM_k (by omega), fun q => Or.inl (congrFun (uM_k (by omega)) q)⟩ h
theorem days_17 {R : Mem} {nc nm pa j : Nat} (hj : j ≠ 1) : ∀ n, (rDays R nc nm pa n).1 17 0 j = R 17 0 j
  | 0 => rfl
  | n + 1 => by
    show (pSts nc (uM (rDays R nc nm pa n).1 17 0 1 ((rDays R nc nm pa n).1 17 0 1 + nI 1), pa, 0) nm).1 17 0 j = _
    rw [pSts_lo (by decide)]
    show uM (rDays R nc nm pa n).1 17 0 1 ((rDays R nc nm pa n).1 17 0 1 + nI 1) 17 0 j = _
    rw [uM_n (fun z => hj z.2.2)]
    exact days_17 hj n
theorem paC_0 {d : Nat} (h1 : 1 ≤ d) (h : d ≤ 60) : paC (nI d) = 0 := by
  unfold paC
  rw [toInt_nI (by omega), decide_eq_true (p := (1 : Int) ≤ ((d : Nat) : Int) ∧ ((d : Nat) : Int) ≤ 60) (by omega)]; rfl
theorem TI_pa {S A : Mem} {ng nm nc t pa rk mo kk d : Nat} (h : INV S ng nm nc t pa rk mo) (hH : LH S nm t) (ht : t ≤ 60 * kk) (hmo : mo ≤ kk) (hkk : kk < 90) (h1 : 1 ≤ d) (h60 : d ≤ 60) (hA : ∀ k, k ≠ 22 → A k = (rDays (GB (cPassN nc nm pa d (S, 0)).1 (nI (cPassN nc nm pa d (S, 0)).2)) nc nm pa d).1 k) (hL : LR A ng nm nc (t + d) pa rk) : nI (cPassN nc nm pa d (S, 0)).2 = nI (rDays (GB (cPassN nc nm pa d (S, 0)).1 (nI (cPassN nc nm pa d (S, 0)).2)) nc nm pa d).2 ∧ TI A (kk + 1) := by
  obtain ⟨-, hv, hst⟩ := step_pass h (show t + 60 < 2 ^ 20 by omega) (nI d)
  rw [paC_0 h1 h60, ix_nI (show d < 2 ^ 31 by omega)] at hv hst
  have eB : uM (TT S 0 (uM (cPassN nc nm pa d (S, 0)).1 19 0 0 (nI (cPassN nc nm pa d (S, 0)).2))) 17 0 0 (nI 0) = GB (cPassN nc nm pa d (S, 0)).1 (nI (cPassN nc nm pa d (S, 0)).2) := rfl
  have k18 : (cPassN nc nm pa d (S, 0)).1 18 = S 18 := cPass_hi (by decide) (by decide) d _
  have k17 : (cPassN nc nm pa d (S, 0)).1 17 = S 17 := cPass_hi (by decide) (by decide) d _
  rw [eB] at hv hst
  generalize hB : GB (cPassN nc nm pa d (S, 0)).1 (nI (cPassN nc nm pa d (S, 0)).2) = B at hv hst hA ⊢
  have b18 : B 18 = S 18 := by rw [← hB]; exact GB_18 k18
  have b17 : ∀ j, j ≠ 0 → B 17 0 j = S 17 0 j := fun j hj => by rw [← hB]; exact GB_17 k17 hj
  have hRB : RI B ng nm nc t pa := by rw [← hB]; exact GB_RI k17 k18 h.2.1
  unfold rPass at hv hst
  have e1 : inR (nI d) (nI 1) (nI 60) = true := by
    rw [inR_n 1 60 (by omega) (by omega), toInt_nI (by omega)]
    exact decide_eq_true (by omega)
  rw [e1, ix_nI (show d < 2 ^ 31 by omega)] at hv hst
  obtain ⟨e1, e3, e4, e5, e6, e7⟩ := INV_E17 h
  have hRd := RI_days (nm := nm) (nc := nc) (pa := pa) hRB d (show t + d < 2 ^ 20 by omega)
  have m17 : ∀ j, j ≠ 0 → j ≠ 1 → A 17 0 j = S 17 0 j := fun j h0 h1' => by
    rw [hA 17 (by decide), days_17 h1']
    exact b17 j h0
  have hP := PHr_days (qv_bd h).2.2 (S := B) (nc := nc) (nm := nm) (pa := pa) d
  refine ⟨hv rfl, TI_mk hst (fun k h19 h22 => hA k h22) hL ⟨(m17 4 (by decide) (by decide)).trans e1, (m17 6 (by decide) (by decide)).trans e3, (m17 11 (by decide) (by decide)).trans e4, by rw [hA 17 (by decide)]; exact hRd.2.2.2.1.1, (m17 7 (by decide) (by decide)).trans e6, (m17 12 (by decide) (by decide)).trans e7⟩ (LH_le hH (fun m _ hh => ?_) ?_ (show t ≤ t + d by omega)) (by omega) hmo⟩
  · rw [← halt_18 b18]
    refine PHr_halt hP ?_
    rw [← halt_18 (hA 18 (by decide))]
    exact hh
  · rw [hA 18 (by decide), hP.1 4 (by decide), b18]
