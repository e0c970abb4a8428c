/-! a turn: exclude, setDuty, setPace -/
def exA (S : Mem) (k o : Nat) : Mem := uM (uM (uM (uM (uM S 22 6 k (S 22 6 k ^^^ (nI 1 <<< (nI o &&& 31)))) 22 6 o (S 22 6 o ^^^ (nI 1 <<< (nI k &&& 31)))) 17 0 0 (nI 0)) 18 15 k (S 18 15 k ^^^ (nI 1 <<< (nI o &&& 31)))) 18 15 o (S 18 15 o ^^^ (nI 1 <<< (nI k &&& 31)))
theorem LR_exA {S : Mem} {ng nm nc t pa rk k o : Nat} (hL : LR S ng nm nc t pa rk) (hk : k < 4) (ho : o < 4) (hko : k ≠ o) : LR (exA S k o) ng nm nc t pa rk := by
  have h := hL
  obtain ⟨hQ, hD, hG, hN, hT, hZ, hC, hCz, hA, hB, hE⟩ := hL
  have e22 : ∀ i, i ≠ 6 → exA S k o 22 i = S 22 i := fun i h0 => by funext j; simp [exA, uM_ap, h0]
  have e18 : ∀ i, i ≠ 15 → exA S k o 18 i = S 18 i := fun i h0 => by funext j; simp [exA, uM_ap, h0]
  refine LR_of h (LQ_fr hQ (e22 0 (by decide))) ?_ ?_ (e18 5 (by decide)) (e22 2 (by decide)) ?_ ?_ ?_ ?_ ?_ (fun k' hk' o' ho' => ?_)
  · unfold LD; rw [e22 0 (by decide), e18 0 (by decide)]; exact hD
  · unfold LG; rw [e22 0 (by decide), e18 1 (by decide)]; exact hG
  · unfold LN; rw [e22 1 (by decide), e18 2 (by decide), e18 3 (by decide), e18 4 (by decide)]; exact hN
  · unfold LC LC1; rw [e18 7 (by decide), e18 8 (by decide), e18 10 (by decide), e18 11 (by decide), e18 12 (by decide), e22 3 (by decide)]; exact hC
  · unfold LCz; rw [e22 3 (by decide)]; exact hCz
  · unfold LA LA1; rw [e22 4 (by decide), e18 13 (by decide), e18 14 (by decide)]; exact hA
  · unfold LB; rw [e22 5 (by decide), e18 6 (by decide), e18 9 (by decide)]; exact hB
  · have old := hE k' hk' o' ho'
    rw [← cnt_bit] at old ⊢
    by_cases h1 : k' = o
    · subst h1
      have z1 : exA S k k' 22 6 k' = S 22 6 k' ^^^ (nI 1 <<< (nI k &&& 31)) := by simp [exA, uM_ap]
      have z2 : exA S k k' 18 15 k' = S 18 15 k' ^^^ (nI 1 <<< (nI k &&& 31)) := by simp [exA, uM_ap]
      rw [z1, z2, xor_cnt _ (by omega) (by omega), xor_cnt _ (by omega) (by omega), old]
    · by_cases h2 : k' = k
      · subst h2
        have z1 : exA S k' o 22 6 k' = S 22 6 k' ^^^ (nI 1 <<< (nI o &&& 31)) := by simp [exA, uM_ap, hko]
        have z2 : exA S k' o 18 15 k' = S 18 15 k' ^^^ (nI 1 <<< (nI o &&& 31)) := by simp [exA, uM_ap, hko]
        rw [z1, z2, xor_cnt _ (by omega) (by omega), xor_cnt _ (by omega) (by omega), old]
      · have z1 : exA S k o 22 6 k' = S 22 6 k' := by simp [exA, uM_ap, h1, h2]
        have z2 : exA S k o 18 15 k' = S 18 15 k' := by simp [exA, uM_ap, h1, h2]
        rw [z1, z2, old]
theorem exC_0 {k o : Nat} (hk : k < 4) (ho : o < 4) (hko : k ≠ o) : exC (nI k) (nI o) = 0 := by
  unfold exC
  rw [rgB_nI (by omega), rgB_nI (by omega), ix_nI (by omega), ix_nI (by omega), decide_eq_true (show k < 6 by omega), decide_eq_true (show o < 6 by omega), decide_eq_false hko]
  rfl
theorem ex_r {S : Mem} {k o : Nat} {b : Bool} (hk : k < 4) (ho : o < 4) (hko : k ≠ o) : (rExclude (TT S (exC (nI k) (nI o)) (uM (exM S (ix (nI k)) (ix (nI o)) b) 19 0 0 (bI (cntI (S 1 2 (ix (nI k))) (nI o))))) (nI k) (nI o) b).2 = (rExcl (uM (uM (exM S k o b) 19 0 0 (bI (cntI (S 1 2 k) (nI o)))) 17 0 0 (nI 0)) (nI k) (nI o) b).2 := by
  rw [exC_0 hk ho hko, ix_nI (by omega), ix_nI (by omega)]
  unfold rExclude
  rw [rgB_nI (by omega), rgB_nI (by omega), decide_eq_true (show k < 6 by omega), decide_eq_true (show o < 6 by omega), decide_eq_false (p := nI k = nI o) (fun z => hko ((nI_eq (by omega) (by omega)).mp z))]
  rfl
theorem TI_ex0 {S : Mem} {ng nm nc t pa rk mo kk k o : Nat} {b : Bool} (h : INV S ng nm nc t pa rk mo) (hL : LR S ng nm nc t pa rk) (hH : LH S nm t) (ht : t ≤ 60 * kk) (hmo : mo ≤ kk) (hk : k < 4) (ho : o < 4) (hko : k ≠ o) (hb : bitI (S 18 15 k) (nI o) = b) : TI (exM (uM S 17 0 0 (nI 0)) k o b) (kk + 1) := by
  have hst := (step_exclude h (nI k) (nI o) b).2.2
  rw [ex_r hk ho hko] at hst
  unfold rExcl at hst
  rw [ix_nI (show k < 2 ^ 31 by omega), ix_nI (show o < 2 ^ 31 by omega)] at hst
  have e2 : ∀ v : Int32, bitI (uM (uM (exM S k o b) 19 0 0 v) 17 0 0 (nI 0) 18 15 k) (nI o) = b := fun v => hb
  rw [e2, beq_self_eq_true] at hst
  obtain ⟨e1, e3, e4, e5, e6, e7⟩ := INV_E17 h
  refine TI_mk hst (fun a h19 h22 => ?_) (LR_fr hL rfl rfl) ⟨e1, e3, e4, e5, e6, e7⟩ (LH_2 hH rfl rfl rfl) (by omega) hmo
  funext i j
  by_cases h1 : a = 1
  · subst h1; simp [exM, uM_ap]
  · simp [exM, uM_ap, h1, h19]
theorem TI_ex1 {S : Mem} {ng nm nc t pa rk mo kk k o : Nat} {b : Bool} (h : INV S ng nm nc t pa rk mo) (hL : LR S ng nm nc t pa rk) (hH : LH S nm t) (ht : t ≤ 60 * kk) (hmo : mo ≤ kk) (hk : k < 4) (ho : o < 4) (hko : k ≠ o) (hb : bitI (S 18 15 k) (nI o) = !b) : TI (exM (exA S k o) k o b) (kk + 1) := by
  have hst := (step_exclude h (nI k) (nI o) b).2.2
  rw [ex_r hk ho hko] at hst
  unfold rExcl at hst
  rw [ix_nI (show k < 2 ^ 31 by omega), ix_nI (show o < 2 ^ 31 by omega)] at hst
  have e2 : ∀ v : Int32, (bitI (uM (uM (exM S k o b) 19 0 0 v) 17 0 0 (nI 0) 18 15 k) (nI o) == b) = false := fun v => by
    show (bitI (S 18 15 k) (nI o) == b) = false
    rw [hb]; cases b <;> rfl
  rw [e2, cond_false] at hst
  obtain ⟨e1, e3, e4, e5, e6, e7⟩ := INV_E17 h
  have hok : o ≠ k := fun z => hko z.symm
  refine TI_mk hst (fun a h19 h22 => ?_) (LR_fr (LR_exA hL hk ho hko) rfl rfl) ⟨e1, e3, e4, e5, e6, e7⟩ (LH_2 hH (by funext j; simp [exM, exA, uM_ap]) (by funext j; simp [exM, exA, uM_ap]) (by funext j; simp [exM, exA, uM_ap])) (by omega) hmo
  funext i j
  by_cases h1 : a = 1
  · subst h1; simp [exM, exA, uM_ap]
  · simp [exM, exA, uM_ap, h1, h19, h22, hok]
def duA (S : Mem) (i d : Nat) : Mem := uM (uM (uM S 22 0 (6 + i) (nI d)) 17 0 0 (nI 0)) 18 0 i (nI d)
theorem LR_duA {S : Mem} {ng nm nc t pa rk i d : Nat} (hL : LR S ng nm nc t pa rk) (hi : i < 4) : LR (duA S i d) ng nm nc t pa rk := by
  have h := hL
  obtain ⟨⟨⟨q0, q1, q2, q3, q4, q5⟩, hbd⟩, hD, hG, hN, hT, hZ, hC, hCz, hA, hB, hE⟩ := hL
  have e22 : ∀ j, j ≠ 0 → duA S i d 22 j = S 22 j := fun j h0 => by funext b; simp [duA, uM_ap, h0]
  have e18 : ∀ j, j ≠ 0 → duA S i d 18 j = S 18 j := fun j h0 => by funext b; simp [duA, uM_ap, h0]
  have e0 : ∀ j, j ≠ 6 + i → duA S i d 22 0 j = S 22 0 j := fun j h0 => by simp [duA, uM_ap, h0]
  refine LR_of h ⟨⟨?_, ?_, ?_, ?_, ?_, ?_⟩, hbd⟩ (fun j hj => ?_) ?_ (e18 5 (by decide)) (e22 2 (by decide)) ?_ ?_ ?_ ?_ ?_ ?_
  · rw [e0 0 (by omega)]; exact q0
  · rw [e0 1 (by omega)]; exact q1
  · rw [e0 2 (by omega)]; exact q2
  · rw [e0 3 (by omega)]; exact q3
  · rw [e0 4 (by omega)]; exact q4
  · rw [e0 5 (by omega)]; exact q5
  · by_cases hji : j = i
    · subst hji; simp [duA, uM_ap]
    · rw [e0 _ (by omega), hD j hj]; simp [duA, uM_ap, hji]
  · unfold LG; rw [e0 10 (by omega), e0 11 (by omega), e18 1 (by decide)]; exact hG
  · unfold LN; rw [e22 1 (by decide), e18 2 (by decide), e18 3 (by decide), e18 4 (by decide)]; exact hN
  · unfold LC LC1; rw [e18 7 (by decide), e18 8 (by decide), e18 10 (by decide), e18 11 (by decide), e18 12 (by decide), e22 3 (by decide)]; exact hC
  · unfold LCz; rw [e22 3 (by decide)]; exact hCz
  · unfold LA LA1; rw [e22 4 (by decide), e18 13 (by decide), e18 14 (by decide)]; exact hA
  · unfold LB; rw [e22 5 (by decide), e18 6 (by decide), e18 9 (by decide)]; exact hB
  · unfold LE; rw [e22 6 (by decide), e18 15 (by decide)]; exact hE
theorem sdC_0 {i d : Nat} (hi : i < 4) (hd : d < 256) : sdC (nI i) (nI d) = 0 := by
  unfold sdC
  rw [rgB_nI (by omega), rgB_nI (by omega), decide_eq_true hi, decide_eq_true hd]; rfl
theorem TI_du {S : Mem} {ng nm nc t pa rk mo kk i d : Nat} (h : INV S ng nm nc t pa rk mo) (hL : LR S ng nm nc t pa rk) (hH : LH S nm t) (ht : t ≤ 60 * kk) (hmo : mo ≤ kk) (hi : i < 4) (hd : d < 256) : TI (uM (duA S i d) 1 0 i (nI d)) (kk + 1) := by
  have hst := (step_setDuty h (nI i) (nI d)).2.2
  rw [sdC_0 hi hd, ix_nI (show i < 2 ^ 31 by omega)] at hst
  unfold rSetDuty at hst
  rw [inR_rg 3 (by omega), inR_rg 255 (by omega), rgB_nI (show i < 2 ^ 31 by omega), rgB_nI (show d < 2 ^ 31 by omega), decide_eq_true (show i < 3 + 1 by omega), decide_eq_true (show d < 255 + 1 by omega), ix_nI (show i < 2 ^ 31 by omega)] at hst
  obtain ⟨e1, e3, e4, e5, e6, e7⟩ := INV_E17 h
  refine TI_mk hst (fun a h19 h22 => ?_) (LR_fr (LR_duA (d := d) hL hi) rfl rfl) ⟨e1, e3, e4, e5, e6, e7⟩ (LH_2 hH (by funext j; simp [duA, uM_ap]) (by funext j; simp [duA, uM_ap]) (by funext j; simp [duA, uM_ap])) (by omega) hmo
  funext x y
  by_cases h1 : a = 1
  · subst h1; simp [TT, duA, uM_ap]
  · simp [TT, duA, uM_ap, h1, h19, h22]
def spA (S : Mem) (d : Nat) : Mem := uM (uM (uM S 22 0 1 (nI d)) 17 0 0 (nI 0)) 17 0 7 (nI d)
theorem LR_spA {S : Mem} {ng nm nc t pa rk d : Nat} (hL : LR S ng nm nc t pa rk) (hd : d ≤ 12) : LR (spA S d) ng nm nc t d rk := by
  obtain ⟨⟨⟨q0, q1, q2, q3, q4, q5⟩, b1, b2, b3, b4, b5, b6, b7⟩, hD, hG, hN, hT, hZ, hC, hCz, hA, hB, hE⟩ := hL
  have e22 : ∀ j, j ≠ 0 → spA S d 22 j = S 22 j := fun j h0 => by funext b; simp [spA, uM_ap, h0]
  have e18 : spA S d 18 = S 18 := by funext b c; simp [spA, uM_ap]
  have e0 : ∀ j, j ≠ 1 → spA S d 22 0 j = S 22 0 j := fun j h0 => by simp [spA, uM_ap, h0]
  refine ⟨⟨⟨(e0 0 (by decide)).trans q0, by simp [spA, uM_ap], (e0 2 (by decide)).trans q2, (e0 3 (by decide)).trans q3, (e0 4 (by decide)).trans q4, (e0 5 (by decide)).trans q5⟩, b1, b2, b3, b4, b5, b6, hd⟩, fun j hj => ?_, ?_, ?_, ?_, ?_, ?_, ?_, ?_, ?_, ?_⟩
  · rw [e0 _ (by omega), e18]; exact hD j hj
  · unfold LG; rw [e0 10 (by decide), e0 11 (by decide), e18]; exact hG
  · unfold LN; rw [e22 1 (by decide), e18]; exact hN
  · unfold LT; rw [e22 2 (by decide), e18]; exact hT
  · unfold LZ; rw [e18]; exact hZ
  · unfold LC LC1; rw [e22 3 (by decide), e18]; exact hC
  · unfold LCz; rw [e22 3 (by decide)]; exact hCz
  · unfold LA LA1; rw [e22 4 (by decide), e18]; exact hA
  · unfold LB; rw [e22 5 (by decide), e18]; exact hB
  · unfold LE; rw [e22 6 (by decide), e18]; exact hE
theorem spC_0 {d : Nat} (hd : d ≤ 12) : spC (nI d) = 0 := by
  unfold spC
  rw [rgB_nI (by omega), decide_eq_true (show d < 13 by omega)]; rfl
theorem TI_sp {S : Mem} {ng nm nc t pa rk mo kk d : Nat} (h : INV S ng nm nc t pa rk mo) (hL : LR S ng nm nc t pa rk) (hH : LH S nm t) (ht : t ≤ 60 * kk) (hmo : mo ≤ kk) (hd : d ≤ 12) : TI (uM (spA S d) 0 0 1 (nI d)) (kk + 1) := by
  have hst := (step_setPace h (nI d)).2.2
  rw [spC_0 hd] at hst
  unfold rSetPace at hst
  rw [inR_rg 12 (by omega), rgB_nI (show d < 2 ^ 31 by omega), decide_eq_true (show d < 12 + 1 by omega)] at hst
  obtain ⟨e1, e3, e4, e5, e6, e7⟩ := INV_E17 h
  refine TI_mk hst (fun a h19 h22 => ?_) (LR_fr (LR_spA hL hd) rfl rfl) ⟨e1, e3, e4, e5, by simp [spA, uM_ap], e7⟩ (LH_2 hH (by funext j; simp [spA, uM_ap]) (by funext j; simp [spA, uM_ap]) (by funext j; simp [spA, uM_ap])) (by omega) hmo
  funext x y
  by_cases h1 : a = 0
  · subst h1; simp [TT, spA, uM_ap]
  · simp [TT, spA, uM_ap, h1, h19, h22]
