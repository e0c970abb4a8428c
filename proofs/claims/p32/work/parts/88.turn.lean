/-! a turn: what holds before and behind it; proposing -/
theorem INV_cg {S T : Mem} {ng nm nc t pa rk mo : Nat} (h : INV S ng nm nc t pa rk mo) (f : ∀ k, k ≠ 19 → k ≠ 22 → T k = S k) : INV T ng nm nc t pa rk mo := by
  have e : T = fun k => if k = 19 then T 19 else if k = 22 then T 22 else S k := by
    funext k
    by_cases h1 : k = 19
    · rw [if_pos h1, h1]
    · rw [if_neg h1]
      by_cases h2 : k = 22
      · rw [if_pos h2, h2]
      · rw [if_neg h2]; exact f k h1 h2
  rw [e]
  exact h
def E17 (S : Mem) (ng nm nc t pa rk : Nat) : Prop := S 17 0 4 = nI ng ∧ S 17 0 6 = nI nm ∧ S 17 0 11 = nI nc ∧ S 17 0 1 = nI t ∧ S 17 0 7 = nI pa ∧ S 17 0 12 = nI rk
def TI (S : Mem) (k : Nat) : Prop := ∃ ng nm nc t pa rk mo, INV S ng nm nc t pa rk mo ∧ LR S ng nm nc t pa rk ∧ LH S nm t ∧ t ≤ 60 * k ∧ mo ≤ k
theorem INV_E17 {S : Mem} {ng nm nc t pa rk mo : Nat} (h : INV S ng nm nc t pa rk mo) : E17 S ng nm nc t pa rk := ⟨h.2.1.1.1, h.2.1.2.1.1, h.2.1.2.2.1.1, h.2.1.2.2.2.1.1, h.2.1.2.2.2.2.1.1, h.2.2.1.1.2.1⟩
theorem TI_mk {A r : Mem} {ng nm nc t pa rk mo k t0 : Nat} (hI : ∃ ng' nm' nc' t' pa' rk' mo', INV r ng' nm' nc' t' pa' rk' mo' ∧ t' ≤ t0 + 60 ∧ mo' ≤ mo + 1) (hA : ∀ k, k ≠ 19 → k ≠ 22 → A k = r k) (hL : LR A ng nm nc t pa rk) (hE : E17 A ng nm nc t pa rk) (hH : LH A nm t) (ht : t ≤ 60 * (k + 1)) (hmo : mo ≤ k) : TI A (k + 1) := by
  obtain ⟨ng', nm', nc', t', pa', rk', mo', h, h1, h2⟩ := hI
  have hIA := INV_cg h hA
  obtain ⟨e1, e2, e3, e4, e5, e6⟩ := hE
  obtain ⟨⟨g1, g2, g3⟩, ⟨g4, g5⟩, ⟨g6, g7⟩, ⟨g8, g9⟩, ⟨g10, g11⟩, -⟩ := id hIA.2.1
  obtain ⟨⟨-, c1, c2⟩, -, c3⟩ := id hIA.2.2.1
  obtain ⟨-, b1, b2, b3, b4, b5, b6, b7⟩ := id hL.1
  have a1 : ng' = ng := (nI_eq (by omega) (by omega)).mp (g1.symm.trans e1)
  have a2 : nm' = nm := (nI_eq (by omega) (by omega)).mp (g4.symm.trans e2)
  have a3 : nc' = nc := (nI_eq (by omega) (by omega)).mp (g6.symm.trans e3)
  have a4 : t' = t := (nI_eq (by omega) (by omega)).mp (g8.symm.trans e4)
  have a5 : pa' = pa := (nI_eq (by omega) (by omega)).mp (g10.symm.trans e5)
  have a6 : rk' = rk := (nI_eq (by omega) (by omega)).mp (c1.symm.trans e6)
  subst a1 a2 a3 a4 a5 a6
  exact ⟨_, _, _, _, _, _, mo', hIA, hL, hH, ht, by omega⟩
theorem TI_s {S : Mem} {k : Nat} (h : TI S k) : TI S (k + 1) := by
  obtain ⟨ng, nm, nc, t, pa, rk, mo, h1, h2, h3, h4, h5⟩ := h
  exact ⟨ng, nm, nc, t, pa, rk, mo, h1, h2, h3, by omega, by omega⟩
theorem TI_fr {S T : Mem} {k : Nat} (h : TI S k) (hF : FRS S T) : TI T k := by
  obtain ⟨ng, nm, nc, t, pa, rk, mo, h1, h2, h3, h4, h5⟩ := h
  have e18 := FRS_k hF (k := 18) (by decide) (by decide) (by decide) (by decide)
  exact ⟨ng, nm, nc, t, pa, rk, mo, INV_fr h1 hF, FRS_LR hF h2, fun m hm hh => by rw [e18]; exact h3 m hm (by rw [← halt_18 e18]; exact hh), h4, h5⟩
theorem LH_le {S T : Mem} {nm t t' : Nat} (h : LH S nm t) (hs : ∀ m, m < nm → mHalt T m = true → mHalt S m = true) (h4 : T 18 4 = S 18 4) (ht : t ≤ t') : LH T nm t' := fun m hm hh => by
  obtain ⟨v, v1, v2⟩ := h m hm (hs m hm hh)
  exact ⟨v, by omega, by rw [h4]; exact v2⟩
theorem halt_2 {S T : Mem} {m : Nat} (h5 : T 18 5 = S 18 5) (h11 : T 18 11 = S 18 11) : mHalt T m = mHalt S m := by unfold mHalt nhB; rw [h5, h11]
theorem LH_2 {S T : Mem} {nm t : Nat} (h : LH S nm t) (h4 : T 18 4 = S 18 4) (h5 : T 18 5 = S 18 5) (h11 : T 18 11 = S 18 11) : LH T nm t := LH_le h (fun m _ hh => by rw [← halt_2 h5 h11]; exact hh) h4 (Nat.le_refl _)
/-! propose -/
def prU (S : Mem) (nc a p k w t : Nat) : Mem := uM (uM (uM (uM (uM (uM S 22 3 (5 * nc) (nI p)) 22 3 (5 * nc + 1) (nI k)) 22 3 (5 * nc + 2) (nI w)) 22 5 (2 * nc) (nI a)) 22 5 (2 * nc + 1) (nI t)) 22 0 4 (nI (nc + 1))
def prA (S : Mem) (nc a p k w t : Nat) : Mem := uM (uM (uM (uM (uM (uM (uM (uM (prU S nc a p k w t) 17 0 0 (nI 0)) 18 6 nc (nI a)) 18 7 nc (nI (pl7 p))) 18 8 nc (nI k)) 18 9 nc (S 17 0 1)) 18 10 nc (nI w)) 18 12 nc (-1)) 17 0 11 (nI (nc + 1))
theorem LR_prA {S : Mem} {ng nm nc t pa rk a p k w : Nat} (hL : LR S ng nm nc t pa rk) (hn : nc < 12) (ha : a < 5) (hp : p < 7) (hp1 : p < 4 → p < ng) (hp2 : 4 ≤ p → p < 4 + nm) (hk : k < 4) (hw : w < 102) (h11 : S 18 11 nc = 0) (e1 : S 17 0 1 = nI t) : LR (prA S nc a p k w t) ng nm (nc + 1) t pa rk := by
  obtain ⟨⟨⟨q0, q1, q2, q3, q4, q5⟩, b1, b2, b3, b4, b5, b6, b7⟩, hD, hG, hN, hT, hZ, hC, hCz, hA, hB, hE⟩ := hL
  obtain ⟨T, hTe⟩ : ∃ T, T = prA S nc a p k w t := ⟨_, rfl⟩
  rw [← hTe]
  have f0 : ∀ j, j ≠ 4 → T 22 0 j = S 22 0 j := fun j hj => by rw [hTe]; simp [prA, prU, uM_ap, hj]
  have f04 : T 22 0 4 = nI (nc + 1) := by rw [hTe]; simp [prA, prU, uM_ap]
  have f22 : ∀ i, i ≠ 0 → i ≠ 3 → i ≠ 5 → T 22 i = S 22 i := fun i h0 h3 h5 => by rw [hTe]; funext j; simp [prA, prU, uM_ap, h0, h3, h5]
  have f3 : ∀ j, j ≠ 5 * nc → j ≠ 5 * nc + 1 → j ≠ 5 * nc + 2 → T 22 3 j = S 22 3 j := fun j x y z => by rw [hTe]; simp [prA, prU, uM_ap, x, y, z]
  have f3a : T 22 3 (5 * nc) = nI p := by rw [hTe]; simp [prA, prU, uM_ap]
  have f3b : T 22 3 (5 * nc + 1) = nI k := by rw [hTe]; simp [prA, prU, uM_ap]
  have f3c : T 22 3 (5 * nc + 2) = nI w := by rw [hTe]; simp [prA, prU, uM_ap]
  have f5 : ∀ j, j ≠ 2 * nc → j ≠ 2 * nc + 1 → T 22 5 j = S 22 5 j := fun j x y => by rw [hTe]; simp [prA, prU, uM_ap, x, y]
  have f5a : T 22 5 (2 * nc) = nI a := by rw [hTe]; simp [prA, prU, uM_ap]
  have f5b : T 22 5 (2 * nc + 1) = nI t := by rw [hTe]; simp [prA, prU, uM_ap]
  have g : ∀ i, i ≠ 6 → i ≠ 7 → i ≠ 8 → i ≠ 9 → i ≠ 10 → i ≠ 12 → T 18 i = S 18 i := fun i h6 h7 h8 h9 h10 h12 => by rw [hTe]; funext j; simp [prA, prU, uM_ap, h6, h7, h8, h9, h10, h12]
  have gn : ∀ i j, j ≠ nc → T 18 i j = S 18 i j := fun i j hj => by rw [hTe]; simp [prA, prU, uM_ap, hj]
  have g6 : T 18 6 nc = nI a := by rw [hTe]; simp [prA, prU, uM_ap]
  have g7 : T 18 7 nc = nI (pl7 p) := by rw [hTe]; simp [prA, prU, uM_ap]
  have g8 : T 18 8 nc = nI k := by rw [hTe]; simp [prA, prU, uM_ap]
  have g9 : T 18 9 nc = nI t := by rw [hTe, ← e1]; simp [prA, prU, uM_ap]
  have g10 : T 18 10 nc = nI w := by rw [hTe]; simp [prA, prU, uM_ap]
  have g12 : T 18 12 nc = -1 := by rw [hTe]; simp [prA, prU, uM_ap]
  refine ⟨⟨⟨(f0 0 (by decide)).trans q0, (f0 1 (by decide)).trans q1, (f0 2 (by decide)).trans q2, (f0 3 (by decide)).trans q3, f04, (f0 5 (by decide)).trans q5⟩, b1, b2, b3, by omega, b5, b6, b7⟩, fun i hi => ?_, fun q hq => ?_, ?_, fun m hm s hs k' hk' => ?_, ?_, fun c hc => ?_, fun c h1 h2 => ?_, ?_, fun c hc => ?_, ?_⟩
  · rw [f0 _ (by omega), g 0 (by decide) (by decide) (by decide) (by decide) (by decide) (by decide)]; exact hD i hi
  · rw [f0 10 (by decide), f0 11 (by decide), g 1 (by decide) (by decide) (by decide) (by decide) (by decide) (by decide)]; exact hG q hq
  · unfold LN; rw [f22 1 (by decide) (by decide) (by decide), g 2 (by decide) (by decide) (by decide) (by decide) (by decide) (by decide), g 3 (by decide) (by decide) (by decide) (by decide) (by decide) (by decide), g 4 (by decide) (by decide) (by decide) (by decide) (by decide) (by decide)]; exact hN
  · rw [f22 2 (by decide) (by decide) (by decide), g 5 (by decide) (by decide) (by decide) (by decide) (by decide) (by decide)]
    rcases hT m hm s hs k' hk' with z | ⟨c, z1, z2⟩
    · exact Or.inl z
    · exact Or.inr ⟨c, by omega, z2⟩
  · unfold LZ; rw [g 5 (by decide) (by decide) (by decide) (by decide) (by decide) (by decide)]; exact hZ
  · unfold LC1
    rw [g 11 (by decide) (by decide) (by decide) (by decide) (by decide) (by decide)]
    by_cases hcn : c = nc
    · subst hcn
      obtain ⟨z1, z2⟩ := hCz c (Nat.le_refl _) hn
      exact ⟨p, k, w, 0, hp, hp1, hp2, hk, hw, by decide, f3a, g7, f3b, g8, f3c, g10, (f3 _ (by omega) (by omega) (by omega)).trans z1, h11, Or.inl ⟨g12, (f3 _ (by omega) (by omega) (by omega)).trans z2, by decide⟩⟩
    · obtain ⟨p', k', w', st, a1, a2, a3, a4, a5, a6, d1, d2, d3, d4, d5, d6, d7, d8, d9⟩ := hC c (by omega)
      rw [f3 _ (by omega) (by omega) (by omega), f3 _ (by omega) (by omega) (by omega), f3 _ (by omega) (by omega) (by omega), f3 _ (by omega) (by omega) (by omega), f3 _ (by omega) (by omega) (by omega), gn _ _ hcn, gn _ _ hcn, gn _ _ hcn, gn _ _ hcn]
      exact ⟨p', k', w', st, a1, a2, a3, a4, a5, a6, d1, d2, d3, d4, d5, d6, d7, d8, d9⟩
  · rw [f3 _ (by omega) (by omega) (by omega), f3 _ (by omega) (by omega) (by omega)]; exact hCz c (by omega) h2
  · unfold LA LA1; rw [f22 4 (by decide) (by decide) (by decide), g 13 (by decide) (by decide) (by decide) (by decide) (by decide) (by decide), g 14 (by decide) (by decide) (by decide) (by decide) (by decide) (by decide)]; exact hA
  · by_cases hcn : c = nc
    · subst hcn
      exact ⟨a, t, ha, Nat.le_refl _, f5a, g6, f5b, g9⟩
    · obtain ⟨a', d, z1, z2, z3, z4, z5, z6⟩ := hB c (by omega)
      exact ⟨a', d, z1, z2, (f5 _ (by omega) (by omega)).trans z3, (gn _ _ hcn).trans z4, (f5 _ (by omega) (by omega)).trans z5, (gn _ _ hcn).trans z6⟩
  · unfold LE; rw [f22 6 (by decide) (by decide) (by decide), g 15 (by decide) (by decide) (by decide) (by decide) (by decide) (by decide)]; exact hE
theorem pl7_lt {p : Nat} (h : p < 7) : pl7 p < 103 := by unfold pl7; split <;> omega
theorem pl_ok {p ng nm : Nat} (hng : ng ≤ 4) (hnm : nm ≤ 3) (hp : p < 7) (hp1 : p < 4 → p < ng) (hp2 : 4 ≤ p → p < 4 + nm) : plB (nI (pl7 p)) ng nm = true ∧ slF (nI (pl7 p)) ng nm ≠ -1 := by
  have hl := pl7_lt hp
  unfold plB slF
  rw [rgB_nI (by omega)]
  rcases Nat.lt_or_ge p 4 with h | h
  · have e : pl7 p = p := by unfold pl7; rw [if_pos h]
    rw [e, decide_eq_true (hp1 h)]
    exact ⟨rfl, m1_ne (by omega)⟩
  · have e : pl7 p = 96 + p := by unfold pl7; rw [if_neg (by omega)]
    have h2 := hp2 h
    rw [e, toInt_nI (by omega), decide_eq_false (show ¬ 96 + p < ng by omega), decide_eq_true (p := (100 : Int) ≤ ((96 + p : Nat) : Int) ∧ ((96 + p : Nat) : Int) < 100 + (nm : Int)) (by omega)]
    refine ⟨rfl, ?_⟩
    show nI 10 + nI (96 + p) - nI 100 ≠ -1
    rw [nI_add, pk_sub (by omega)]
    exact m1_ne (by omega)
theorem inR_w {w : Nat} (h : w < 102) : inR (nI w) (nI 0) (nI 101) = true := by
  rw [inR_rg 101 (by omega), rgB_nI (by omega), decide_eq_true (by omega)]
theorem pr_eq {S : Mem} {nc a p k w t : Nat} {q v : Int32} : ∀ b, b ≠ 19 → b ≠ 22 → prM (prA S nc a p k w t) nc (nI a) q (nI w) b = uM (uM (uM (uM (uM (uM (uM (uM (uM (prM S nc (nI a) q (nI w)) 19 0 0 v) 17 0 0 (nI 0)) 18 6 nc (nI a)) 18 7 nc (nI (pl7 p))) 18 8 nc (nI k)) 18 9 nc (S 17 0 1)) 18 10 nc (nI w)) 18 12 nc (-1)) 17 0 11 (nI (nc + 1)) b := by
  intro b h19 h22
  funext i j
  by_cases h9 : b = 9
  · subst h9; simp [prM, prA, prU, uM_ap]
  · by_cases h0 : b = 0
    · subst h0; simp [prM, prA, prU, uM_ap]
    · simp [prM, prA, prU, uM_ap, h9, h0, h19, h22]
theorem prC_is {S : Mem} {ng nm nc a p k w : Nat} (hng : ng ≤ 4) (hnm : nm ≤ 3) (hn : nc < 12) (ha : a < 5) (hp : p < 7) (hp1 : p < 4 → p < ng) (hp2 : 4 ≤ p → p < 4 + nm) (hk : k < 4) (hw : w < 102) : prC S (nI a) (nI (pl7 p)) (nI k) (nI w) ng nm nc = bif decide (S 5 a 0 = 0) then 3 else 0 := by
  unfold prC
  rw [rgB_nI (by omega), decide_eq_true (show a < 8 by omega), decide_eq_true (pl_ok hng hnm hp hp1 hp2).2, rgB_nI (by omega), decide_eq_true (show k < 6 by omega), rgB_nI (by omega), decide_eq_true (show w < 102 by omega), ix_nI (by omega), decide_eq_false (show ¬ 40 ≤ nc by omega), Bool.or_false]
  rfl
theorem TI_pr {S : Mem} {ng nm nc t pa rk mo kk a p k w : Nat} (h : INV S ng nm nc t pa rk mo) (hL : LR S ng nm nc t pa rk) (hH : LH S nm t) (ht : t ≤ 60 * kk) (hmo : mo ≤ kk) (hn : nc < 12) (ha : a < 5) (hp : p < 7) (hp1 : p < 4 → p < ng) (hp2 : 4 ≤ p → p < 4 + nm) (hk : k < 4) (hw : w < 102) (hs : S 18 1 a = 0) : prC S (nI a) (nI (pl7 p)) (nI k) (nI w) ng nm nc = 0 ∧ TI (prM (prA S nc a p k w t) nc (nI a) (nI (ix (slF (nI (pl7 p)) ng nm) * 6 + ix (nI k))) (nI w)) (kk + 1) := by
  obtain ⟨-, b1, b2, b3, b4, b5, b6, b7⟩ := id hL.1
  have hc : prC S (nI a) (nI (pl7 p)) (nI k) (nI w) ng nm nc = 0 := by
    rw [prC_is b2 b3 hn ha hp hp1 hp2 hk hw]
    rcases h.2.2.2.2.2.1 a (by omega) with ⟨z1, -, -⟩ | ⟨-, -, z1⟩ | ⟨-, -, z1⟩
    · rw [z1]; rfl
    · rw [hs] at z1; exact absurd z1 (by decide)
    · rw [hs] at z1; exact absurd z1 (by decide)
  refine ⟨hc, ?_⟩
  have hst := (step_propose h (nI a) (nI (pl7 p)) (nI k) (nI w)).2.2
  rw [hc] at hst
  have h11 : S 18 11 nc = 0 := (h.2.2.2.2.2.2.2.2.2.1 nc (Nat.le_refl _) (by omega)).2.1
  have hLA := LR_prA (a := a) (p := p) (k := k) (w := w) hL hn ha hp hp1 hp2 hk hw h11 h.2.1.2.2.2.1.1
  have e0 : ∀ {α : Type} (x y : α), (bif Nat.beq 0 0 then x else y) = x := fun x y => rfl
  unfold TT at hst
  rw [e0] at hst
  unfold rPropose at hst
  rw [rgB_nI (by omega), decide_eq_true (show a < 8 by omega), (pl_ok b2 b3 hp hp1 hp2).1, rgB_nI (by omega), decide_eq_true (show k < 6 by omega), inR_w hw, ix_nI (show a < 2 ^ 31 by omega), decide_eq_false (show ¬ nc = 40 by omega)] at hst
  have e2 : ∀ x y, decide ((0 : Int32) < uM (uM (prM S nc (nI a) x y) 19 0 0 (nI nc)) 17 0 0 (nI 0) 18 1 a) = false := fun x y => by
    show decide ((0 : Int32) < S 18 1 a) = false
    rw [hs]; decide
  rw [e2] at hst
  obtain ⟨e1, e3, e4, e5, e6, e7⟩ := INV_E17 h
  refine TI_mk hst (fun b h19 h22 => (pr_eq (v := nI nc) b h19 h22)) (LR_fr hLA rfl rfl) ⟨?_, ?_, ?_, ?_, ?_, ?_⟩ (LH_2 hH ?_ ?_ ?_) (by omega) hmo
  · simp [prM, prA, prU, uM_ap]; exact e1
  · simp [prM, prA, prU, uM_ap]; exact e3
  · simp [prM, prA, prU, uM_ap]
  · simp [prM, prA, prU, uM_ap]; exact e5
  · simp [prM, prA, prU, uM_ap]; exact e6
  · simp [prM, prA, prU, uM_ap]; exact e7
  · funext j; simp [prM, prA, prU, uM_ap]
  · funext j; simp [prM, prA, prU, uM_ap]
  · funext j; simp [prM, prA, prU, uM_ap]
