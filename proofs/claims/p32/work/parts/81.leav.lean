/-! the law's approvals and leavings, beside the ghost's -/
theorem zt0 : (0 : Int32).toInt = 0 := rfl
theorem uM_k {S : Mem} {k i j a b : Nat} {x : Int32} (h : ¬ (a = k ∧ b = i)) : uM S k i j x a b = S a b := uS_n h
theorem uM_ks {S : Mem} {k i j : Nat} {x : Int32} : uM S k i j x k i = upd (S k i) j x := uS_s
/-- a part of the relation is as before where what it reads is -/
theorem LR_of {S T : Mem} {ng nm nc t pa rk rk' : Nat} (h : LR S ng nm nc t pa rk) (hQ : LQ T ng nm nc t pa rk') (hD : LD T) (hG : LG T) (h5 : T 18 5 = S 18 5) (h2 : T 22 2 = S 22 2) (hN : LN T ng nm t) (hC : LC T ng nm nc rk') (hz : LCz T nc) (hA : LA T t) (hB : LB T nc t) (hE : LE T) : LR T ng nm nc t pa rk' :=
  ⟨hQ, hD, hG, hN, by unfold LT; rw [h5, h2]; exact h.2.2.2.2.1, by unfold LZ; rw [h5]; exact h.2.2.2.2.2.1, hC, hz, hA, hB, hE⟩
def apA (S : Mem) (p c t : Nat) : Mem := uM (uM (uM S 18 13 (8 * c + p) (nI 1)) 18 14 (8 * c + p) (nI t)) 22 4 (5 * c + p) (nI (t + 1))
theorem LR_apA {S : Mem} {ng nm nc t pa rk p c : Nat} (hL : LR S ng nm nc t pa rk) (hp : p < 5) (hc : c < 12) : LR (apA S p c t) ng nm nc t pa rk := by
  have e22 : ∀ i, i ≠ 4 → apA S p c t 22 i = S 22 i := fun i h0 => by unfold apA; rw [uM_k (by omega), uM_k (by omega), uM_k (by omega)]
  have e18 : ∀ i, i ≠ 13 → i ≠ 14 → apA S p c t 18 i = S 18 i := fun i h0 h1 => by unfold apA; rw [uM_k (by omega), uM_k (by omega), uM_k (by omega)]
  have e13 : apA S p c t 18 13 = upd (S 18 13) (8 * c + p) (nI 1) := by unfold apA; rw [uM_k (by omega), uM_k (by omega), uM_ks]
  have e14 : apA S p c t 18 14 = upd (S 18 14) (8 * c + p) (nI t) := by unfold apA; rw [uM_k (by omega), uM_ks, uM_k (by omega)]
  have e4 : apA S p c t 22 4 = upd (S 22 4) (5 * c + p) (nI (t + 1)) := by unfold apA; rw [uM_ks, uM_k (by omega), uM_k (by omega)]
  have h := hL
  obtain ⟨hQ, hD, hG, hN, hT, hZ, hC, hCz, hA, hB, hE⟩ := hL
  refine LR_of h (LQ_fr hQ (e22 0 (by decide))) ?_ ?_ (e18 5 (by decide) (by decide)) (e22 2 (by decide)) ?_ ?_ ?_ (fun c' hc' => ?_) ?_ ?_
  · unfold LD; rw [e22 0 (by decide), e18 0 (by decide) (by decide)]; exact hD
  · unfold LG; rw [e22 0 (by decide), e18 1 (by decide) (by decide)]; exact hG
  · unfold LN; rw [e22 1 (by decide), e18 2 (by decide) (by decide), e18 3 (by decide) (by decide), e18 4 (by decide) (by decide)]; exact hN
  · unfold LC LC1; rw [e18 7 (by decide) (by decide), e18 8 (by decide) (by decide), e18 10 (by decide) (by decide), e18 11 (by decide) (by decide), e18 12 (by decide) (by decide), e22 3 (by decide)]; exact hC
  · unfold LCz; rw [e22 3 (by decide)]; exact hCz
  · unfold LA1
    rw [e13, e14, e4]
    unfold upd
    refine ⟨fun q hq => ?_, fun q h1 h2 => ?_⟩
    · by_cases hh : c' = c ∧ q = p
      · rw [if_pos (by omega), if_pos (by omega), if_pos (by omega)]
        exact Or.inl ⟨rfl, t, Nat.le_refl _, rfl, rfl⟩
      · rw [if_neg (by omega), if_neg (by omega), if_neg (by omega)]
        exact (hA c' hc').1 q hq
    · rw [if_neg (by omega)]
      exact (hA c' hc').2 q h1 h2
  · unfold LB; rw [e22 5 (by decide), e18 6 (by decide) (by decide), e18 9 (by decide) (by decide)]; exact hB
  · unfold LE; rw [e22 6 (by decide), e18 15 (by decide) (by decide)]; exact hE
/-- a change is HELD, with a rank -/
def hoA (S : Mem) (c r rk' : Nat) (x : Int32) : Mem := uM (uM (uM (uM (uM (uM S 18 11 c (nI 1)) 17 0 12 x) 18 12 c (nI r)) 22 3 (5 * c + 3) (nI 1)) 22 0 5 (nI rk')) 22 3 (5 * c + 4) (nI (r + 1))
theorem LR_hoA {S : Mem} {ng nm nc t pa rk c r rk' : Nat} {x : Int32} (hL : LR S ng nm nc t pa rk) (hc : c < nc) (hr : r < rk') (hrk : rk ≤ rk') (hrk20 : rk' < 2 ^ 20) : LR (hoA S c r rk' x) ng nm nc t pa rk' := by
  have e22 : ∀ i, i ≠ 0 → i ≠ 3 → hoA S c r rk' x 22 i = S 22 i := fun i h0 h1 => by unfold hoA; rw [uM_k (by omega), uM_k (by omega), uM_k (by omega), uM_k (by omega), uM_k (by omega), uM_k (by omega)]
  have e18 : ∀ i, i ≠ 11 → i ≠ 12 → hoA S c r rk' x 18 i = S 18 i := fun i h0 h1 => by unfold hoA; rw [uM_k (by omega), uM_k (by omega), uM_k (by omega), uM_k (by omega), uM_k (by omega), uM_k (by omega)]
  have e11 : hoA S c r rk' x 18 11 = upd (S 18 11) c (nI 1) := by unfold hoA; rw [uM_k (by omega), uM_k (by omega), uM_k (by omega), uM_k (by omega), uM_k (by omega), uM_ks]
  have e12 : hoA S c r rk' x 18 12 = upd (S 18 12) c (nI r) := by unfold hoA; rw [uM_k (by omega), uM_k (by omega), uM_k (by omega), uM_ks, uM_k (by omega), uM_k (by omega)]
  have e0 : hoA S c r rk' x 22 0 = upd (S 22 0) 5 (nI rk') := by unfold hoA; rw [uM_k (by omega), uM_ks, uM_k (by omega), uM_k (by omega), uM_k (by omega), uM_k (by omega)]
  have e3 : hoA S c r rk' x 22 3 = upd (upd (S 22 3) (5 * c + 3) (nI 1)) (5 * c + 4) (nI (r + 1)) := by unfold hoA; rw [uM_ks, uM_k (by omega), uM_ks, uM_k (by omega), uM_k (by omega), uM_k (by omega)]
  have h := hL
  obtain ⟨⟨⟨q0, q1, q2, q3, q4, q5⟩, hng1, hng4, hnm3, hnc12, ht20, -, hpa12⟩, hD, hG, hN, hT, hZ, hC, hCz, hA, hB, hE⟩ := hL
  refine LR_of h ?_ ?_ ?_ (e18 5 (by decide) (by decide)) (e22 2 (by decide) (by decide)) ?_ (fun c' hc' => ?_) (fun c' h1 h2 => ?_) ?_ ?_ ?_
  · unfold LQ; rw [e0]; exact ⟨⟨q0, q1, q2, q3, q4, rfl⟩, hng1, hng4, hnm3, hnc12, ht20, hrk20, hpa12⟩
  · unfold LD; rw [e0, e18 0 (by decide) (by decide)]; intro i hi; unfold upd; rw [if_neg (by omega)]; exact hD i hi
  · unfold LG; rw [e0, e18 1 (by decide) (by decide)]; exact hG
  · unfold LN; rw [e22 1 (by decide) (by decide), e18 2 (by decide) (by decide), e18 3 (by decide) (by decide), e18 4 (by decide) (by decide)]; exact hN
  · obtain ⟨p', k', w, st, a1, a2, a3, a4, a5, a6, b1, b2, b3, b4, b5, b6, b7, b8, b9⟩ := hC c' hc'
    unfold LC1
    rw [e18 7 (by decide) (by decide), e18 8 (by decide) (by decide), e18 10 (by decide) (by decide), e11, e12, e3]
    unfold upd
    by_cases hcc : c' = c
    · subst hcc
      refine ⟨p', k', w, 1, a1, a2, a3, a4, a5, by decide, ?_, b2, ?_, b4, ?_, b6, ?_, ?_, Or.inr ⟨r, hr, ?_, ?_⟩⟩
      · rw [if_neg (by omega), if_neg (by omega)]; exact b1
      · rw [if_neg (by omega), if_neg (by omega)]; exact b3
      · rw [if_neg (by omega), if_neg (by omega)]; exact b5
      · rw [if_neg (by omega), if_pos rfl]
      · rw [if_pos rfl]
      · rw [if_pos rfl]
      · rw [if_pos rfl]
    · refine ⟨p', k', w, st, a1, a2, a3, a4, a5, a6, ?_, b2, ?_, b4, ?_, b6, ?_, ?_, ?_⟩
      · rw [if_neg (by omega), if_neg (by omega)]; exact b1
      · rw [if_neg (by omega), if_neg (by omega)]; exact b3
      · rw [if_neg (by omega), if_neg (by omega)]; exact b5
      · rw [if_neg (by omega), if_neg (by omega)]; exact b7
      · rw [if_neg hcc]; exact b8
      · rw [if_neg hcc, if_neg (by omega), if_neg (by omega)]
        rcases b9 with z | ⟨r', z1, z2⟩
        · exact Or.inl z
        · exact Or.inr ⟨r', by omega, z2⟩
  · rw [e3]
    unfold upd
    rw [if_neg (by omega), if_neg (by omega), if_neg (by omega), if_neg (by omega)]
    exact hCz c' h1 h2
  · unfold LA LA1; rw [e22 4 (by decide) (by decide), e18 13 (by decide) (by decide), e18 14 (by decide) (by decide)]; exact hA
  · unfold LB; rw [e22 5 (by decide) (by decide), e18 6 (by decide) (by decide), e18 9 (by decide) (by decide)]; exact hB
  · unfold LE; rw [e22 6 (by decide) (by decide), e18 15 (by decide) (by decide)]; exact hE
/-- an approval is voided -/
def gvA (S : Mem) (p c : Nat) (x : Int32) : Mem := uM (uM S 18 13 (8 * c + p) (nI 2)) 22 4 (5 * c + p) x
theorem LR_gvA {S : Mem} {ng nm nc t pa rk p c : Nat} {x : Int32} (hL : LR S ng nm nc t pa rk) (hp : p < 5) (hc : c < 12) (hx : x ≤ 0) : LR (gvA S p c x) ng nm nc t pa rk := by
  have e22 : ∀ i, i ≠ 4 → gvA S p c x 22 i = S 22 i := fun i h0 => by unfold gvA; rw [uM_k (by omega), uM_k (by omega)]
  have e18 : ∀ i, i ≠ 13 → gvA S p c x 18 i = S 18 i := fun i h0 => by unfold gvA; rw [uM_k (by omega), uM_k (by omega)]
  have e13 : gvA S p c x 18 13 = upd (S 18 13) (8 * c + p) (nI 2) := by unfold gvA; rw [uM_k (by omega), uM_ks]
  have e4 : gvA S p c x 22 4 = upd (S 22 4) (5 * c + p) x := by unfold gvA; rw [uM_ks, uM_k (by omega)]
  have h := hL
  obtain ⟨hQ, hD, hG, hN, hT, hZ, hC, hCz, hA, hB, hE⟩ := hL
  refine LR_of h (LQ_fr hQ (e22 0 (by decide))) ?_ ?_ (e18 5 (by decide)) (e22 2 (by decide)) ?_ ?_ ?_ (fun c' hc' => ?_) ?_ ?_
  · unfold LD; rw [e22 0 (by decide), e18 0 (by decide)]; exact hD
  · unfold LG; rw [e22 0 (by decide), e18 1 (by decide)]; exact hG
  · unfold LN; rw [e22 1 (by decide), e18 2 (by decide), e18 3 (by decide), e18 4 (by decide)]; exact hN
  · unfold LC LC1; rw [e18 7 (by decide), e18 8 (by decide), e18 10 (by decide), e18 11 (by decide), e18 12 (by decide), e22 3 (by decide)]; exact hC
  · unfold LCz; rw [e22 3 (by decide)]; exact hCz
  · unfold LA1
    rw [e13, e18 14 (by decide), e4]
    unfold upd
    refine ⟨fun q hq => ?_, fun q h1 h2 => ?_⟩
    · by_cases hh : c' = c ∧ q = p
      · rw [if_pos (by omega), if_pos (by omega)]
        exact Or.inr ⟨by decide, hx⟩
      · rw [if_neg (by omega), if_neg (by omega)]
        exact (hA c' hc').1 q hq
    · rw [if_neg (by omega)]
      exact (hA c' hc').2 q h1 h2
  · unfold LB; rw [e22 5 (by decide), e18 6 (by decide), e18 9 (by decide)]; exact hB
  · unfold LE; rw [e22 6 (by decide), e18 15 (by decide)]; exact hE
/-- a change is something else, but not HELD anew -/
def stC (S : Mem) (c st : Nat) : Mem := uM (uM S 18 11 c (nI st)) 22 3 (5 * c + 3) (nI st)
theorem LR_stC {S : Mem} {ng nm nc t pa rk c st : Nat} (hL : LR S ng nm nc t pa rk) (hc : c < nc) (hst : st < 4) (h1 : st = 1 → S 18 11 c = nI 1) : LR (stC S c st) ng nm nc t pa rk := by
  have e22 : ∀ i, i ≠ 3 → stC S c st 22 i = S 22 i := fun i h0 => by unfold stC; rw [uM_k (by omega), uM_k (by omega)]
  have e18 : ∀ i, i ≠ 11 → stC S c st 18 i = S 18 i := fun i h0 => by unfold stC; rw [uM_k (by omega), uM_k (by omega)]
  have e11 : stC S c st 18 11 = upd (S 18 11) c (nI st) := by unfold stC; rw [uM_k (by omega), uM_ks]
  have e3 : stC S c st 22 3 = upd (S 22 3) (5 * c + 3) (nI st) := by unfold stC; rw [uM_ks, uM_k (by omega)]
  have h := hL
  obtain ⟨hQ, hD, hG, hN, hT, hZ, hC, hCz, hA, hB, hE⟩ := hL
  have hnc12 := hQ.2.2.2.2.1
  refine LR_of h (LQ_fr hQ (e22 0 (by decide))) ?_ ?_ (e18 5 (by decide)) (e22 2 (by decide)) ?_ (fun c' hc' => ?_) (fun c' h1 h2 => ?_) ?_ ?_ ?_
  · unfold LD; rw [e22 0 (by decide), e18 0 (by decide)]; exact hD
  · unfold LG; rw [e22 0 (by decide), e18 1 (by decide)]; exact hG
  · unfold LN; rw [e22 1 (by decide), e18 2 (by decide), e18 3 (by decide), e18 4 (by decide)]; exact hN
  · obtain ⟨p', k', w, st', a1, a2, a3, a4, a5, a6, b1, b2, b3, b4, b5, b6, b7, b8, b9⟩ := hC c' hc'
    unfold LC1
    rw [e18 7 (by decide), e18 8 (by decide), e18 10 (by decide), e11, e18 12 (by decide), e3]
    unfold upd
    by_cases hcc : c' = c
    · subst hcc
      refine ⟨p', k', w, st, a1, a2, a3, a4, a5, hst, ?_, b2, ?_, b4, ?_, b6, ?_, ?_, ?_⟩
      · rw [if_neg (by omega)]; exact b1
      · rw [if_neg (by omega)]; exact b3
      · rw [if_neg (by omega)]; exact b5
      · rw [if_pos rfl]
      · rw [if_pos rfl]
      · rw [if_neg (by omega)]
        rcases b9 with ⟨z1, z2, z3⟩ | z
        · refine Or.inl ⟨z1, z2, fun z => z3 ?_⟩
          have := h1 z
          rw [b8] at this
          exact (nI_eq (by omega) (by omega)).mp this
        · exact Or.inr z
    · refine ⟨p', k', w, st', a1, a2, a3, a4, a5, a6, ?_, b2, ?_, b4, ?_, b6, ?_, ?_, ?_⟩
      · rw [if_neg (by omega)]; exact b1
      · rw [if_neg (by omega)]; exact b3
      · rw [if_neg (by omega)]; exact b5
      · rw [if_neg (by omega)]; exact b7
      · rw [if_neg hcc]; exact b8
      · rw [if_neg (by omega)]; exact b9
  · rw [e3]
    unfold upd
    rw [if_neg (by omega), if_neg (by omega)]
    exact hCz c' h1 h2
  · unfold LA LA1; rw [e22 4 (by decide), e18 13 (by decide), e18 14 (by decide)]; exact hA
  · unfold LB; rw [e22 5 (by decide), e18 6 (by decide), e18 9 (by decide)]; exact hB
  · unfold LE; rw [e22 6 (by decide), e18 15 (by decide)]; exact hE
/-- a person has gone -/
def goA (S : Mem) (p : Nat) (b : Bool) : Mem := uM (uM (uM S 18 1 p (bif b then nI 2 else nI 1)) 22 0 10 (S 22 0 10 ||| (nI 1 <<< (nI p &&& 31)))) 22 0 11 (S 22 0 11 ||| (bif b then nI 1 <<< (nI p &&& 31) else nI 0))
theorem LR_goA {S : Mem} {ng nm nc t pa rk p : Nat} {b : Bool} (hL : LR S ng nm nc t pa rk) (hp : p < 5) (hs : S 18 1 p = 0) : LR (goA S p b) ng nm nc t pa rk := by
  have e22 : ∀ i, i ≠ 0 → goA S p b 22 i = S 22 i := fun i h0 => by unfold goA; rw [uM_k (by omega), uM_k (by omega), uM_k (by omega)]
  have e18 : ∀ i, i ≠ 1 → goA S p b 18 i = S 18 i := fun i h0 => by unfold goA; rw [uM_k (by omega), uM_k (by omega), uM_k (by omega)]
  have e1 : goA S p b 18 1 = upd (S 18 1) p (bif b then nI 2 else nI 1) := by unfold goA; rw [uM_k (by omega), uM_k (by omega), uM_ks]
  have e0 : ∀ j, j ≠ 10 → j ≠ 11 → goA S p b 22 0 j = S 22 0 j := fun j h1 h2 => by
    unfold goA
    rw [uM_n (fun z => h2 z.2.2), uM_n (fun z => h1 z.2.2), uM_n (fun z => absurd z.1 (by decide))]
  have e10 : goA S p b 22 0 10 = S 22 0 10 ||| (nI 1 <<< (nI p &&& 31)) := by
    unfold goA
    rw [uM_n (fun z => absurd z.2.2 (by decide)), uM_s]
  have e11 : goA S p b 22 0 11 = S 22 0 11 ||| (bif b then nI 1 <<< (nI p &&& 31) else nI 0) := by unfold goA; rw [uM_s]
  have h := hL
  obtain ⟨⟨⟨q0, q1, q2, q3, q4, q5⟩, hbd⟩, hD, hG, hN, hT, hZ, hC, hCz, hA, hB, hE⟩ := hL
  refine LR_of h ?_ ?_ (fun q hq => ?_) (e18 5 (by decide)) (e22 2 (by decide)) ?_ ?_ ?_ ?_ ?_ ?_
  · refine ⟨⟨?_, ?_, ?_, ?_, ?_, ?_⟩, hbd⟩
    · rw [e0 0 (by decide) (by decide)]; exact q0
    · rw [e0 1 (by decide) (by decide)]; exact q1
    · rw [e0 2 (by decide) (by decide)]; exact q2
    · rw [e0 3 (by decide) (by decide)]; exact q3
    · rw [e0 4 (by decide) (by decide)]; exact q4
    · rw [e0 5 (by decide) (by decide)]; exact q5
  · intro i hi; rw [e0 _ (by omega) (by omega), e18 0 (by decide)]; exact hD i hi
  · obtain ⟨g1, g2, g3⟩ := hG q hq
    have w10 : S 22 0 10 ||| (nI 1 <<< (nI p &&& 31)) = wthI (S 22 0 10) (nI p) true := rfl
    rw [e10, e11, e1, w10, wth_cnt _ true (by omega) (by omega)]
    unfold upd
    cases b with
    | true =>
      have w11 : S 22 0 11 ||| (bif true then nI 1 <<< (nI p &&& 31) else nI 0) = wthI (S 22 0 11) (nI p) true := rfl
      rw [w11, wth_cnt _ true (by omega) (by omega)]
      by_cases hqp : q = p
      · rw [if_pos hqp, if_pos hqp, if_pos hqp]
        exact ⟨Or.inr (Or.inr rfl), by decide, by decide⟩
      · rw [if_neg hqp, if_neg hqp, if_neg hqp]; exact ⟨g1, g2, g3⟩
    | false =>
      have w11 : S 22 0 11 ||| (bif false then nI 1 <<< (nI p &&& 31) else nI 0) = S 22 0 11 := or_zero32 _
      rw [w11]
      by_cases hqp : q = p
      · rw [if_pos hqp, if_pos hqp]
        refine ⟨Or.inr (Or.inl rfl), by decide, ?_⟩
        rw [g3, hqp, hs]; decide
      · rw [if_neg hqp, if_neg hqp]; exact ⟨g1, g2, g3⟩
  · unfold LN; rw [e22 1 (by decide), e18 2 (by decide), e18 3 (by decide), e18 4 (by decide)]; exact hN
  · unfold LC LC1; rw [e18 7 (by decide), e18 8 (by decide), e18 10 (by decide), e18 11 (by decide), e18 12 (by decide), e22 3 (by decide)]; exact hC
  · unfold LCz; rw [e22 3 (by decide)]; exact hCz
  · unfold LA LA1; rw [e22 4 (by decide), e18 13 (by decide), e18 14 (by decide)]; exact hA
  · unfold LB; rw [e22 5 (by decide), e18 6 (by decide), e18 9 (by decide)]; exact hB
  · unfold LE; rw [e22 6 (by decide), e18 15 (by decide)]; exact hE
/-- machines that are stopped are free -/
def nuF (S : Mem) (j : Nat) : Nat → Int32 := fun q => if 7 ≤ q ∧ q < 7 + j ∧ mHalt S (q - 7) = true then nI 0 else S 22 1 q
def vuF (S : Mem) (b : Bool) (j : Nat) : Nat → Int32 := bif b then ovl (S 18 4) 0 j (fun m => bif mHalt S m then S 17 0 1 else S 18 4 m) else S 18 4
def unA (S : Mem) (b : Bool) (j : Nat) : Mem := uS (uS S 18 4 (vuF S b j)) 22 1 (nuF S j)
theorem nuF_s {S : Mem} {j : Nat} : upd (nuF S j) (7 + j) (bif mHalt S j then nI 0 else S 22 1 (7 + j)) = nuF S (j + 1) := by
  funext q
  unfold nuF upd
  dsimp only
  by_cases hq : q = 7 + j
  · subst hq
    rw [if_pos rfl, show 7 + j - 7 = j by omega]
    cases mHalt S j with
    | true => rw [if_pos ⟨by omega, by omega, rfl⟩]; rfl
    | false => rw [if_neg (fun z => by cases z.2.2)]; rfl
  · rw [if_neg hq]
    by_cases h2 : 7 ≤ q ∧ q < 7 + j ∧ mHalt S (q - 7) = true
    · rw [if_pos h2, if_pos ⟨h2.1, by omega, h2.2.2⟩]
    · rw [if_neg h2, if_neg (fun z => h2 ⟨z.1, by omega, z.2.2⟩)]
theorem nuF_at {S : Mem} {j : Nat} : nuF S j (7 + j) = S 22 1 (7 + j) := by
  unfold nuF
  rw [if_neg (by omega)]
theorem nuF_0 {S : Mem} : nuF S 0 = S 22 1 := by
  funext q
  unfold nuF
  rw [if_neg (by omega)]
def LH (S : Mem) (nm t : Nat) : Prop := ∀ m, m < nm → mHalt S m = true → ∃ v, v ≤ t ∧ S 18 4 m = nI v
theorem LR_unA {S : Mem} {ng nm nc t pa rk j : Nat} {b : Bool} (hL : LR S ng nm nc t pa rk) (hR : RI S ng nm nc t pa) (hj : j ≤ nm) (hH : b = false → LH S nm t) : LR (unA S b j) ng nm nc t pa rk := by
  have e22 : ∀ i, i ≠ 1 → unA S b j 22 i = S 22 i := fun i hi => (uS_n (fun z => hi z.2)).trans (uS_n (fun z => absurd z.1 (by decide)))
  have e18 : ∀ i, i ≠ 4 → unA S b j 18 i = S 18 i := fun i h1 => (uS_n (fun z => absurd z.1 (by decide))).trans (uS_n (fun z => h1 z.2))
  have e4 : unA S b j 18 4 = vuF S b j := (uS_n (fun z => absurd z.1 (by decide))).trans uS_s
  have e1 : unA S b j 22 1 = nuF S j := uS_s
  have h := hL
  obtain ⟨hQ, hD, hG, hN, hT, hZ, hC, hCz, hA, hB, hE⟩ := hL
  have hnm3 := hQ.2.2.2.1
  have hng4 := hQ.2.2.1
  have ht20 := hQ.2.2.2.2.2.1
  refine LR_of h (LQ_fr hQ (e22 0 (by decide))) ?_ ?_ (e18 5 (by decide)) (e22 2 (by decide)) ⟨fun g hg => ?_, fun m hm => ?_, fun m hm => ?_⟩ ?_ ?_ ?_ ?_ ?_
  · unfold LD; rw [e22 0 (by decide), e18 0 (by decide)]; exact hD
  · unfold LG; rw [e22 0 (by decide), e18 1 (by decide)]; exact hG
  · rw [e1, e18 2 (by decide)]
    unfold nuF
    rw [if_neg (by omega)]
    exact hN.1 g hg
  · rw [e1, e18 3 (by decide)]
    unfold nuF
    rw [if_neg (by omega)]
    exact hN.2.1 m hm
  · rw [e1, e4]
    have old := hN.2.2 m hm
    have en : nuF S j (7 + m) = if m < j ∧ mHalt S m = true then nI 0 else S 22 1 (7 + m) := by
      unfold nuF
      rw [show 7 + m - 7 = m by omega]
      by_cases hh : m < j ∧ mHalt S m = true
      · rw [if_pos hh, if_pos ⟨by omega, by omega, hh.2⟩]
      · rw [if_neg hh, if_neg (fun z => hh ⟨by omega, z.2.2⟩)]
    rw [en]
    by_cases hh : m < j ∧ mHalt S m = true
    · rw [if_pos hh]
      cases b with
      | true =>
        have ev : vuF S true j m = S 17 0 1 := by
          have := ovl_in (f := S 18 4) (b := 0) (v := fun m => bif mHalt S m then S 17 0 1 else S 18 4 m) hh.1
          rw [Nat.zero_add] at this
          refine this.trans ?_
          rw [hh.2]; rfl
        rw [ev]
        exact ⟨0, t, by decide, by omega, rfl, hR.2.2.2.1.1, Or.inr ⟨Nat.zero_le _, Nat.le_refl _⟩⟩
      | false =>
        obtain ⟨v, v1, v2⟩ := hH rfl m (by omega) hh.2
        exact ⟨0, v, by decide, by omega, rfl, v2, Or.inr ⟨Nat.zero_le _, v1⟩⟩
    · rw [if_neg hh]
      have ev : vuF S b j m = S 18 4 m := by
        cases b with
        | false => rfl
        | true =>
          rcases Nat.lt_or_ge m j with y | y
          · have := ovl_in (f := S 18 4) (b := 0) (v := fun m => bif mHalt S m then S 17 0 1 else S 18 4 m) y
            rw [Nat.zero_add] at this
            refine this.trans ?_
            cases hm' : mHalt S m with
            | true => exact absurd ⟨y, hm'⟩ hh
            | false => rfl
          · show ovl (S 18 4) 0 j (fun m => bif mHalt S m then S 17 0 1 else S 18 4 m) m = S 18 4 m
            exact ovl_out (Or.inr (by omega))
      rw [ev]
      exact old
  · unfold LC LC1; rw [e18 7 (by decide), e18 8 (by decide), e18 10 (by decide), e18 11 (by decide), e18 12 (by decide), e22 3 (by decide)]; exact hC
  · unfold LCz; rw [e22 3 (by decide)]; exact hCz
  · unfold LA LA1; rw [e22 4 (by decide), e18 13 (by decide), e18 14 (by decide)]; exact hA
  · unfold LB; rw [e22 5 (by decide), e18 6 (by decide), e18 9 (by decide)]; exact hB
  · unfold LE; rw [e22 6 (by decide), e18 15 (by decide)]; exact hE
theorem unA_halt {S : Mem} {b : Bool} {j m : Nat} : mHalt (unA S b j) m = mHalt S m := by
  unfold mHalt nhB
  have e5 : unA S b j 18 5 = S 18 5 := (uS_n (fun z => absurd z.1 (by decide))).trans (uS_n (fun z => absurd z.2 (by decide)))
  have e11 : unA S b j 18 11 = S 18 11 := (uS_n (fun z => absurd z.1 (by decide))).trans (uS_n (fun z => absurd z.2 (by decide)))
  rw [e5, e11]
theorem unA_RI {S : Mem} {ng nm nc t pa j : Nat} {b : Bool} (hR : RI S ng nm nc t pa) : RI (unA S b j) ng nm nc t pa := by
  have e18 : ∀ i, i ≠ 4 → unA S b j 18 i = S 18 i := fun i h1 => (uS_n (fun z => absurd z.1 (by decide))).trans (uS_n (fun z => h1 z.2))
  have e17 : unA S b j 17 = S 17 := funext fun i => (uS_n (fun z => absurd z.1 (by decide))).trans (uS_n (fun z => absurd z.1 (by decide)))
  unfold RI TK grp at hR ⊢
  rw [e17, e18 2 (by decide), e18 3 (by decide), e18 5 (by decide)]
  exact hR
/-- what the ghost's kinds hold doesn't matter to the others -/
theorem gh_u {A P : Mem} {a i j : Nat} {x : Int32} (h17 : a ≠ 17) (h18 : a ≠ 18) (h19 : a ≠ 19) (h : ∀ k, k ≠ 17 → k ≠ 18 → k ≠ 19 → A k = P k) : ∀ k, k ≠ 17 → k ≠ 18 → k ≠ 19 → uM A a i j x k = uM P a i j x k := by
  intro k z17 z18 z19
  unfold uM
  funext b
  unfold uS
  rw [h k z17 z18 z19, h a h17 h18 h19]
theorem gh_g {A : Mem} {a i j : Nat} {x : Int32} (ha : a = 17 ∨ a = 18 ∨ a = 19) : ∀ k, k ≠ 17 → k ≠ 18 → k ≠ 19 → uM A a i j x k = A k := fun k z17 z18 z19 => funext fun b => uM_k (by omega)
theorem gh_t {A P Q : Mem} (h : ∀ k, k ≠ 17 → k ≠ 18 → k ≠ 19 → A k = P k) (h2 : ∀ k, k ≠ 17 → k ≠ 18 → k ≠ 19 → P k = Q k) : ∀ k, k ≠ 17 → k ≠ 18 → k ≠ 19 → A k = Q k := fun k a b c => (h k a b c).trans (h2 k a b c)
theorem ho_gh {S : Mem} {c r rk' : Nat} {x : Int32} : ∀ k, k ≠ 17 → k ≠ 18 → k ≠ 19 → hoA S c r rk' x k = uM (uM (uM S 22 3 (5 * c + 3) (nI 1)) 22 0 5 (nI rk')) 22 3 (5 * c + 4) (nI (r + 1)) k :=
  gh_u (by decide) (by decide) (by decide) (gh_u (by decide) (by decide) (by decide) (gh_u (by decide) (by decide) (by decide) (gh_t (gh_g (Or.inr (Or.inl rfl))) (gh_t (gh_g (Or.inl rfl)) (gh_g (Or.inr (Or.inl rfl)))))))
theorem uM_22 {S : Mem} {i j k : Nat} {x : Int32} (h : k ≠ 22) : uM S 22 i j x k = S k := funext fun b => uM_k (fun z => h z.1)
