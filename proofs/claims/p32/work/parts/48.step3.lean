/-! machines: both sides see the same layers, changes, halts -/
theorem lay_clay {S : Mem} {ng nm nc t pa rk mo i : Nat} (h : INV S ng nm nc t pa rk mo) (hi : i < nm) : clay S i = (lay (S 18 2) (grp S i)).map (csl i) := by
  have hm := ((h.2.2.2.2.2.2.1 i (by have := h.1.2.1.2; omega)).1 hi).2
  obtain ⟨g1, g2⟩ := RI_grp h.2.1 hi
  have hp := h.2.1.2.2.2.2.2.1
  have hng := h.2.1.1.2.2
  rw [hm]
  unfold lay
  rw [List.map_cons]
  have e : csl i 10 = 10 + i := if_pos rfl
  rw [e]
  congr 1
  have hx := (pth_len hp hng (grp S i + 1) (grp S i) (Nat.lt_succ_self _) g1).2.2.1
  refine (List.map_id (pth (S 18 2) (grp S i))).symm.trans (List.map_congr_left (fun s hs => ?_))
  have := hx s hs
  unfold csl
  rw [if_neg (by omega)]; rfl
theorem lc_len {S : Mem} {ng nm nc t pa rk mo i : Nat} (h : INV S ng nm nc t pa rk mo) (hi : i < nm) : (clay S i).length = (lay (S 18 2) (grp S i)).length := by rw [lay_clay h hi, List.length_map]
theorem lay_at {S : Mem} {ng nm nc t pa rk mo i j : Nat} (h : INV S ng nm nc t pa rk mo) (hi : i < nm) (hj : j < (clay S i).length) : (clay S i).getD j 0 = csl i ((lay (S 18 2) (grp S i)).getD j 0) ∧ (lay (S 18 2) (grp S i)).getD j 0 ≤ 10 := by
  have hl := lc_len h hi
  have hj2 : j < (lay (S 18 2) (grp S i)).length := by omega
  obtain ⟨g1, g2⟩ := RI_grp h.2.1 hi
  have hp := h.2.1.2.2.2.2.2.1
  have hng := h.2.1.1.2.2
  refine ⟨?_, ?_⟩
  · rw [lay_clay h hi, List.getD_eq_getElem?_getD, List.getD_eq_getElem?_getD, List.getElem?_map, List.getElem?_eq_getElem hj2]; rfl
  · rcases lay_in hj2 with z | z
    · omega
    · have := (pth_len hp hng (grp S i + 1) (grp S i) (Nat.lt_succ_self _) g1).2.2.1 _ z; omega
theorem pl_eq {i s s' : Nat} (hi : i < 12) (hs : s ≤ 10) (hs' : s' < 22) : plS s' = plc i s ↔ s' = csl i s := by
  unfold plS plc csl
  by_cases h1 : s = 10 <;> by_cases h2 : s' < 10 <;> simp [h1, h2] <;> omega
theorem top_eq {S : Mem} {ng nm nc t pa rk mo i s k : Nat} (h : INV S ng nm nc t pa rk mo) (hi : i < 12) (hs : s ≤ 10) (hk : k < 6) : oI (mTop S nc i s k) = S 13 0 (csl i s * 6 + k) := by
  have hcs : csl i s < 22 := by unfold csl; by_cases z : s = 10 <;> simp [z] <;> omega
  rw [h.2.2.2.2.2.2.2.2.2.2.2.1 _ (by omega)]
  unfold mTop mTopI
  congr 1
  refine bestN_cong (fun c hc => ?_) (fun c hc => ?_)
  · obtain ⟨a, s', k', c1, c2, c3, c4, c5, c6, c7, c8, c9, c10, c11, c12, c13, c14⟩ := h.2.2.2.2.2.2.2.2.1 c hc
    unfold mOkI hdOk hdC
    rw [c7, c8, c6, c13, ix_nI (by omega)]
    congr 1
    rw [Bool.eq_iff_iff]
    simp only [Bool.and_eq_true, decide_eq_true_eq]
    have hp1 : plS s' < 2 ^ 31 := by unfold plS; by_cases z : s' < 10 <;> simp [z] <;> omega
    have hp2 : plc i s < 2 ^ 31 := by unfold plc; by_cases z : s = 10 <;> simp [z] <;> omega
    rw [nI_eq hp1 hp2, nI_eq (by omega) (by omega), pl_eq hi hs c2]
    omega
  · obtain ⟨a, s', k', c1, c2, c3, c4, c5, c6, c7, c8, c9, c10, c11, c12, c13, c14⟩ := h.2.2.2.2.2.2.2.2.1 c hc
    exact c14.symm
theorem nh_eq {S : Mem} {ng nm nc t pa rk mo : Nat} {x : Int32} (h : INV S ng nm nc t pa rk mo) (hx : x = -1 ∨ ∃ c, c < nc ∧ x = nI c) : cNh S nc x = nhB S x := by
  have hnc := h.1.2.2.1.2
  unfold cNh nhB
  rcases hx with rfl | ⟨c, hc, rfl⟩
  · rfl
  · have e : (nI c).toNatClampNeg = c := nI_clamp (by omega)
    rw [rgB_nI (by omega), decide_eq_true hc, decide_eq_true (m1_ne (by omega)), e, ix_nI (by omega)]
    obtain ⟨a, s', k', c1, c2, c3, c4, c5, c6, c7, c8, c9, c10, c11, c12, c13, c14⟩ := h.2.2.2.2.2.2.2.2.1 c hc
    rw [c13]
theorem tk_in {S : Mem} {ng nm nc t pa rk mo i q : Nat} (h : INV S ng nm nc t pa rk mo) (hi : i < 12) (hq : q < 132) : S 8 i q = -1 ∨ ∃ c, c < nc ∧ S 8 i q = nI c := by
  rcases h.2.2.2.2.2.2.2.1.2 i hi q hq with z | ⟨z1, z2, c, z3, z4, z5⟩
  · exact Or.inl z
  · exact Or.inr ⟨c, z3, z4⟩
theorem csl_lt {i s : Nat} (hi : i < 12) (hs : s ≤ 10) : csl i s < 22 := by unfold csl; by_cases z : s = 10 <;> simp [z] <;> omega
theorem nhL_eq {S : Mem} {ng nm nc t pa rk mo i s : Nat} (h : INV S ng nm nc t pa rk mo) (hi : i < 12) (hs : s ≤ 10) : cNhL S nc i (csl i s) = mNhL S i s := by
  unfold cNhL mNhL
  refine anyB_cong fun k hk => ?_
  have := csl_lt hi hs
  rw [h.2.2.2.2.2.2.2.1.1 i hi s hs k hk, nh_eq h (tk_in h hi (by omega))]
theorem near_eq {S : Mem} {ng nm nc t pa rk mo i : Nat} (h : INV S ng nm nc t pa rk mo) (hi : i < nm) : cNear S nc i (clay S i) = fstN (fun j => mNhL S i ((lay (S 18 2) (grp S i)).getD j 0)) (lay (S 18 2) (grp S i)).length := by
  have hnm := h.1.2.1.2
  unfold cNear
  rw [lc_len h hi]
  refine fstN_cong fun j hj => ?_
  obtain ⟨a, b⟩ := lay_at h hi (by rw [lc_len h hi]; exact hj)
  rw [a, nhL_eq h (by omega) b]
theorem halt_eq {S : Mem} {ng nm nc t pa rk mo i : Nat} (h : INV S ng nm nc t pa rk mo) (hi : i < nm) : (cNear S nc i (clay S i)).isSome = mHalt S i := by
  have hnm := h.1.2.1.2
  rw [near_eq h hi]
  cases hm : mHalt S i with
  | true => rw [(RI_halt h.2.1 hi hm).1]; rfl
  | false =>
    have hf : fstN (fun j => mNhL S i ((lay (S 18 2) (grp S i)).getD j 0)) (lay (S 18 2) (grp S i)).length = none := by
      refine fstN_none.mpr fun j hj => ?_
      refine anyB_f fun k hk => ?_
      have hs := (lay_at h hi (by rw [lc_len h hi]; exact hj)).2
      cases hb : nhB S (S 18 5 (6 * (11 * i + (lay (S 18 2) (grp S i)).getD j 0) + k)) with
      | false => rfl
      | true =>
        have : mHalt S i = true := anyB_s (k := 6 * (lay (S 18 2) (grp S i)).getD j 0 + k) (by
          show nhB S (S 18 5 (66 * i + (6 * (lay (S 18 2) (grp S i)).getD j 0 + k))) = true
          rw [show 66 * i + (6 * (lay (S 18 2) (grp S i)).getD j 0 + k) = 6 * (11 * i + (lay (S 18 2) (grp S i)).getD j 0) + k by omega]
          exact hb) (by omega)
        rw [hm] at this; cases this
    rw [hf]; rfl
theorem beh_eq {S : Mem} {ng nm nc t pa rk mo i s : Nat} (h : INV S ng nm nc t pa rk mo) (hi : i < 12) (hs : s ≤ 10) : cBeh S i (csl i s) = mLag S nc i s := by
  unfold cBeh mLag
  refine anyB_cong fun k hk => ?_
  rw [h.2.2.2.2.2.2.2.1.1 i hi s hs k hk, top_eq h hi hs hk]
theorem far_eq {S : Mem} {ng nm nc t pa rk mo i : Nat} (h : INV S ng nm nc t pa rk mo) (hi : i < nm) : cFar S i (clay S i) = mFar S nc i (grp S i) := by
  have hnm := h.1.2.1.2
  unfold cFar mFar
  rw [lc_len h hi]
  refine farN_cong fun j hj => ?_
  obtain ⟨a, b⟩ := lay_at h hi (by rw [lc_len h hi]; exact hj)
  rw [a, beh_eq h (by omega) b]
theorem step_isStopped {S : Mem} {ng nm nc t pa rk mo : Nat} (h : INV S ng nm nc t pa rk mo) (x : Int32) : STEP (rqC x nm) (bI (cNear S nc (ix x) (clay S (ix x))).isSome) t mo (rIsStopped (TT S (rqC x nm) (uM S 19 0 0 (bI (cNear S nc (ix x) (clay S (ix x))).isSome))) x nm) := by
  unfold rIsStopped
  cases h1 : rgB x nm with
  | false =>
    have e : rqC x nm = 1 := by unfold rqC; rw [h1]; rfl
    rw [e]
    exact step_f h (by decide) rfl
  | true =>
    have e : rqC x nm = 0 := by unfold rqC; rw [h1]; rfl
    rw [e]
    obtain ⟨j, hj, rfl⟩ := rgB_t h1
    have hnm := h.1.2.1.2
    have ij : ix (nI j) = j := ix_nI (by omega)
    rw [ij]
    refine step_q h rfl rfl ?_
    rw [halt_eq h hj]; rfl
theorem step_taken {S : Mem} {ng nm nc t pa rk mo : Nat} (h : INV S ng nm nc t pa rk mo) (x y z : Int32) : STEP (taC S x y z nm) (S 8 (ix x) ((clay S (ix x)).getD (ix y) 0 * 6 + ix z)) t mo (rTaken (uM (TT S (taC S x y z nm) (uM S 19 0 0 (S 8 (ix x) ((clay S (ix x)).getD (ix y) 0 * 6 + ix z)))) 17 0 0 (nI 0)) x y z nm) := by
  have hnm := h.1.2.1.2
  obtain ⟨T, hT⟩ : ∃ T, T = uM (TT S (taC S x y z nm) (uM S 19 0 0 (S 8 (ix x) ((clay S (ix x)).getD (ix y) 0 * 6 + ix z)))) 17 0 0 (nI 0) := ⟨_, rfl⟩
  have e18 : T 18 = S 18 := by rw [hT]; unfold TT; cases Nat.beq (taC S x y z nm) 0 <;> rfl
  have hg : grp T = grp S := by unfold grp; rw [e18]
  rw [← hT]
  unfold rTaken
  rw [hg, e18]
  cases h1 : rgB x nm with
  | false =>
    have e : taC S x y z nm = 1 := by unfold taC; rw [h1]; rfl
    rw [e] at hT ⊢
    exact step_f h (by decide) (by rw [hT]; exact uM_uM)
  | true =>
    obtain ⟨j, hj, rfl⟩ := rgB_t h1
    have ij : ix (nI j) = j := ix_nI (by omega)
    rw [ij] at hT ⊢
    have hl := lc_len h hj
    rw [← hl]
    cases h2 : rgB y (clay S j).length with
    | false =>
      have e : taC S (nI j) y z nm = 1 := by unfold taC; rw [h1, ij, h2]; rfl
      rw [e] at hT ⊢
      exact step_f h (by decide) (by rw [hT]; exact uM_uM)
    | true =>
      cases h3 : rgB z 6 with
      | false =>
        have e : taC S (nI j) y z nm = 1 := by unfold taC; rw [h1, ij, h2, h3]; rfl
        rw [e] at hT ⊢
        exact step_f h (by decide) (by rw [hT]; exact uM_uM)
      | true =>
        have e : taC S (nI j) y z nm = 0 := by unfold taC; rw [h1, ij, h2, h3]; rfl
        rw [e] at hT ⊢
        obtain ⟨k, hk, rfl⟩ := rgB_t h3
        have ik : ix (nI k) = k := ix_nI (by omega)
        have hlen := (h.1.2.2.2.2.2.2.1 j hj).2.1
        obtain ⟨w, hw, rfl⟩ := rgB_t h2
        have iw : ix (nI w) = w := ix_nI (by omega)
        rw [ik, iw] at hT ⊢
        obtain ⟨a, b⟩ := lay_at h hj hw
        refine step_q (rk := rk) (by rw [hT]; exact h) (by rw [hT]; rfl) rfl ?_
        show _ = S 18 5 _
        rw [h.2.2.2.2.2.2.2.1.1 j (by omega) _ b k hk, a]
theorem step_behind {S : Mem} {ng nm nc t pa rk mo : Nat} (h : INV S ng nm nc t pa rk mo) (x : Int32) : STEP (rqC x nm) (nI (bhN S (ix x))) t mo (rBehind (uM (TT S (rqC x nm) (uM S 19 0 0 (nI (bhN S (ix x))))) 17 0 0 (nI 0)) x nm nc) := by
  have hnm := h.1.2.1.2
  unfold rBehind
  cases h1 : rgB x nm with
  | false =>
    have e : rqC x nm = 1 := by unfold rqC; rw [h1]; rfl
    rw [e]
    exact step_f h (by decide) uM_uM
  | true =>
    have e : rqC x nm = 0 := by unfold rqC; rw [h1]; rfl
    rw [e]
    obtain ⟨j, hj, rfl⟩ := rgB_t h1
    have ij : ix (nI j) = j := ix_nI (by omega)
    rw [ij]
    refine step_q h rfl rfl ?_
    show nI (bhN S j) = nI (cntB (fun i => mLag S nc j ((lay (S 18 2) (grp S j)).getD i 0)) (lay (S 18 2) (grp S j)).length)
    unfold bhN
    rw [← lc_len h hj]
    congr 1
    refine cntB_cong fun q hq => ?_
    obtain ⟨a, b⟩ := lay_at h hj hq
    rw [a, beh_eq h (by omega) b]
theorem step_spread {S : Mem} {ng nm nc t pa rk mo : Nat} (h : INV S ng nm nc t pa rk mo) (x : Int32) : STEP (rqC x nc) (nI (sdN S nm (ix x))) t mo (rSpread (uM (TT S (rqC x nc) (uM S 19 0 0 (nI (sdN S nm (ix x))))) 17 0 0 (nI 0)) x nm nc) := by
  have hnm := h.1.2.1.2
  have hnc := h.1.2.2.1.2
  unfold rSpread
  cases h1 : rgB x nc with
  | false =>
    have e : rqC x nc = 1 := by unfold rqC; rw [h1]; rfl
    rw [e]
    exact step_f h (by decide) uM_uM
  | true =>
    have e : rqC x nc = 0 := by unfold rqC; rw [h1]; rfl
    rw [e]
    obtain ⟨j, hj, rfl⟩ := rgB_t h1
    have ij : ix (nI j) = j := ix_nI (by omega)
    rw [ij]
    refine step_q h rfl rfl ?_
    show nI (sdN S nm j) = nI (cntB (fun m => hasC S m j) nm)
    unfold sdN
    congr 1
    refine cntB_cong fun i hi => ?_
    obtain ⟨a, s, k, c1, c2, c3, c4, c5, c6, c7, c8, c9, c10, c11, c12, c13, c14⟩ := h.2.2.2.2.2.2.2.2.1 j hj
    rw [c6, ix_nI (by omega)]
    unfold hasC
    rw [Bool.eq_iff_iff, decide_eq_true_iff, anyB_t]
    obtain ⟨t1, t2⟩ := h.2.2.2.2.2.2.2.1
    constructor
    · intro he
      have hin : (s * 6 + k) / 6 ∈ clay S i := by
        rcases t2 i (by omega) (s * 6 + k) (by omega) with z | ⟨z1, z2, c, z3, z4, z5⟩
        · rw [he] at z; exact absurd z (m1_ne (by omega))
        · exact z2
      rw [show (s * 6 + k) / 6 = s by omega, lay_clay h hi] at hin
      obtain ⟨s0, hs0, e0⟩ := List.mem_map.mp hin
      obtain ⟨w, hw, ew⟩ := lay_mem hs0
      have hb := (lay_at h hi (by rw [lc_len h hi]; exact hw)).2
      rw [ew] at hb
      refine ⟨6 * s0 + k, by omega, decide_eq_true ?_⟩
      rw [show 66 * i + (6 * s0 + k) = 6 * (11 * i + s0) + k by omega, t1 i (by omega) s0 hb k c3, e0]
      exact he
    · rintro ⟨w, hw, he⟩
      have he2 := of_decide_eq_true he
      rw [show 66 * i + w = 6 * (11 * i + w / 6) + w % 6 by omega, t1 i (by omega) (w / 6) (by omega) (w % 6) (by omega)] at he2
      have hcs := csl_lt (i := i) (s := w / 6) (by omega) (by omega)
      rcases t2 i (by omega) (csl i (w / 6) * 6 + w % 6) (by omega) with z | ⟨z1, z2, c, z3, z4, z5⟩
      · rw [he2] at z; exact absurd z (m1_ne (by omega))
      · rw [he2] at z4
        have hcj := (nI_eq (by omega) (by omega)).mp z4
        subst hcj
        rw [c6] at z5
        have := (nI_eq (by omega) (by omega)).mp z5
        rw [this]; exact he2
