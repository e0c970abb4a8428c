/-! the law's moves and steps, beside the ghost's -/
section LK7
variable {p : Program} {l : Launch} {e : Env} {R : Room} {s : State} {m : MethodId} {args : Array Value} {below : List Frame} {meth : Method} {c : Code} {D : va_G} {ad : Nat → Nat → Nat} {A : Nat → Prop} {nL : Nat} {Q : State → Prop} {cells slots : Nat} {S : Mem} {lvs : List (Nat × Value)} {st : List Value} {ca : Nat → ClassId} {pc : Nat}
/-- the ghost may be another at any time -/
theorem g_gh (T : Mem) (h : ∀ k, k ≠ 17 → k ≠ 18 → k ≠ 19 → T k = S k) (kk : G p l e R s m args below meth c D ad A nL Q cells slots CNT (SH ad ca T) pc lvs st) : G p l e R s m args below meth c D ad A nL Q cells slots CNT (SH ad ca S) pc lvs st := by
  refine g_E (E' := SH ad ca T) (fun k i hi => ?_) kk
  by_cases h17 : k = 17
  · subst h17; exact absurd hi (Nat.not_lt_zero _)
  · by_cases h18 : k = 18
    · subst h18; exact absurd hi (Nat.not_lt_zero _)
    · by_cases h19 : k = 19
      · subst h19; exact absurd hi (Nat.not_lt_zero _)
      · show cellOf ad ca k i (S k i) = cellOf ad ca k i (T k i)
        rw [h k h17 h18 h19]
end LK7
theorem LR_t {S T : Mem} {ng nm nc t pa rk : Nat} (h : LR S ng nm nc t pa rk) (h18 : ∀ i, i ≠ 5 → T 18 i = S 18 i) (h22 : ∀ i, i ≠ 2 → T 22 i = S 22 i) (hT : LT T nc) (hZ : LZ T) : LR T ng nm nc t pa rk := by
  obtain ⟨hQ, hD, hG, hN, -, -, hC, hCz, hA, hB, hE⟩ := h
  refine ⟨LQ_fr hQ (h22 0 (by decide)), ?_, ?_, ?_, hT, hZ, LC_fr hC h18 (h22 3 (by decide)), ?_, ?_, ?_, ?_⟩
  · unfold LD; rw [h22 0 (by decide), h18 0 (by decide)]; exact hD
  · unfold LG; rw [h22 0 (by decide), h18 1 (by decide)]; exact hG
  · unfold LN; rw [h22 1 (by decide), h18 2 (by decide), h18 3 (by decide), h18 4 (by decide)]; exact hN
  · unfold LCz; rw [h22 3 (by decide)]; exact hCz
  · unfold LA LA1; rw [h22 4 (by decide), h18 13 (by decide), h18 14 (by decide)]; exact hA
  · unfold LB; rw [h22 5 (by decide), h18 6 (by decide), h18 9 (by decide)]; exact hB
  · unfold LE; rw [h22 6 (by decide), h18 15 (by decide)]; exact hE
theorem mTop_5 {S T : Mem} {nc m s k : Nat} (h18 : ∀ i, i ≠ 5 → T 18 i = S 18 i) : mTop T nc m s k = mTop S nc m s k := by
  unfold mTop mTopI mOkI
  rw [h18 7 (by decide), h18 8 (by decide), h18 11 (by decide), h18 12 (by decide)]
/-- a layer taken, or gone back in: what a machine has taken there -/
def tkT (S : Mem) (nc m s n : Nat) : Nat → Int32 := ovl (S 22 2) (20 * m + 4 * s4 s) n (fun k => nI (oP (mTop S nc m s k)))
def tkA (S : Mem) (nc m s : Nat) : Mem := uS (mTakeAt S nc m s) 22 2 (tkT S nc m s 4)
theorem s10_in {s m s' m' k k' : Nat} (hs : s < 4 ∨ s = 10) (hs' : s' ≤ 4) (hk : k < 6) (hk' : k' < 6) (h : 6 * (11 * m + s10 s') + k' = 6 * (11 * m' + s) + k) : m = m' ∧ s' = s4 s ∧ k' = k := by
  have : s10 s' ≤ 10 := by unfold s10; split <;> omega
  have h1 : 11 * m + s10 s' = 11 * m' + s := by omega
  have h2 : m = m' ∧ s10 s' = s := by omega
  refine ⟨h2.1, ?_, by omega⟩
  unfold s10 at h2
  unfold s4
  by_cases h4 : s' = 4
  · rw [if_pos h4] at h2; rw [if_pos h2.2.symm]; exact h4
  · rw [if_neg h4] at h2; rw [if_neg (by omega)]; exact h2.2
theorem top_pair {S : Mem} {nc m s k : Nat} : (oI (mTop S nc m s k) = -1 ∧ nI (oP (mTop S nc m s k)) = nI 0) ∨ ∃ c, c < nc ∧ oI (mTop S nc m s k) = nI c ∧ nI (oP (mTop S nc m s k)) = nI (c + 1) := by
  cases h : mTop S nc m s k with
  | none => exact Or.inl ⟨rfl, rfl⟩
  | some c => exact Or.inr ⟨c, mTop_lt h, rfl, rfl⟩
theorem LR_tkA {S : Mem} {ng nm nc t pa rk m s : Nat} (hL : LR S ng nm nc t pa rk) (hm : m < 3) (hs : s < 4 ∨ s = 10) : LR (tkA S nc m s) ng nm nc t pa rk := by
  have h18 : ∀ i, i ≠ 5 → tkA S nc m s 18 i = S 18 i := fun i hi => (uS_n (fun z => absurd z.1 (by decide))).trans (uS_n (fun z => hi z.2))
  have h22 : ∀ i, i ≠ 2 → tkA S nc m s 22 i = S 22 i := fun i hi => (uS_n (fun z => hi z.2)).trans (uS_n (fun z => absurd z.1 (by decide)))
  have e5 : tkA S nc m s 18 5 = ovl (S 18 5) (6 * (11 * m + s)) 6 (fun k => oI (mTop S nc m s k)) := (uS_n (fun z => absurd z.1 (by decide))).trans uS_s
  have e2 : tkA S nc m s 22 2 = tkT S nc m s 4 := uS_s
  have hs4 := s10_s4 hs
  refine LR_t hL h18 h22 (fun m' hm' s' hs' k hk => ?_) (fun m' hm' s' hs' k hk hz => ?_)
  · rw [e5, e2]
    by_cases hq : m' = m ∧ s' = s4 s
    · obtain ⟨rfl, rfl⟩ := hq
      rw [hs4.1, ovl_in (f := S 18 5) (b := 6 * (11 * m' + s)) (v := fun k => oI (mTop S nc m' s k)) (show k < 6 by omega)]
      have : tkT S nc m' s 4 (20 * m' + 4 * s4 s + k) = nI (oP (mTop S nc m' s k)) := ovl_in (f := S 22 2) (v := fun k => nI (oP (mTop S nc m' s k))) hk
      rw [this]
      exact top_pair
    · have h10 : s10 s' ≤ 10 := by unfold s10; split <;> omega
      have o1 : ovl (S 18 5) (6 * (11 * m + s)) 6 (fun k => oI (mTop S nc m s k)) (6 * (11 * m' + s10 s') + k) = S 18 5 (6 * (11 * m' + s10 s') + k) := by
        refine ovl_out ?_
        rcases Nat.lt_or_ge (6 * (11 * m' + s10 s') + k) (6 * (11 * m + s)) with y | y
        · exact Or.inl y
        · rcases Nat.lt_or_ge (6 * (11 * m' + s10 s') + k) (6 * (11 * m + s) + 6) with w | w
          · have := s10_in (m := m') (m' := m) (k' := k) (k := 6 * (11 * m' + s10 s') + k - 6 * (11 * m + s)) hs hs' (by omega) (by omega) (by omega)
            exact absurd ⟨this.1, this.2.1⟩ hq
          · exact Or.inr w
      have o2 : tkT S nc m s 4 (20 * m' + 4 * s' + k) = S 22 2 (20 * m' + 4 * s' + k) := ovl_out (by omega)
      rw [o1, o2]
      exact hL.2.2.2.2.1 m' hm' s' hs' k hk
  · rw [e5]
    by_cases hq : 6 * (11 * m + s) ≤ 6 * (11 * m' + s') + k ∧ 6 * (11 * m' + s') + k < 6 * (11 * m + s) + 6
    · have h1 : m' = m ∧ s' = s := by omega
      obtain ⟨rfl, rfl⟩ := h1
      rw [ovl_in (f := S 18 5) (b := 6 * (11 * m' + s')) (v := fun k => oI (mTop S nc m' s' k)) hk]
      exact ch_hi (nc := nc) hL hm' hs' (by omega) hk false
    · rw [ovl_out (by omega)]
      exact hL.2.2.2.2.2.1 m' hm' s' hs' k hk hz
def bkT (S : Mem) (nc m s n : Nat) : Nat → Int32 := fun q => if 20 * m + 4 * s4 s ≤ q ∧ q < 20 * m + 4 * s4 s + n ∧ nhB S (S 18 5 (6 * (11 * m + s) + (q - (20 * m + 4 * s4 s)))) = true then nI (oP (mTop S nc m s (q - (20 * m + 4 * s4 s)))) else S 22 2 q
def bkA (S : Mem) (nc m s : Nat) : Mem := uS (mBackAt S nc m s) 22 2 (bkT S nc m s 4)
theorem bkT_0 {S : Mem} {nc m s : Nat} : bkT S nc m s 0 = S 22 2 := by
  funext q
  unfold bkT
  rw [if_neg (by omega)]
theorem bkT_at {S : Mem} {nc m s n : Nat} : bkT S nc m s n (20 * m + 4 * s4 s + n) = S 22 2 (20 * m + 4 * s4 s + n) := by
  unfold bkT
  rw [if_neg (by omega)]
theorem bkT_t {S : Mem} {nc m s n : Nat} (h : nhB S (S 18 5 (6 * (11 * m + s) + n)) = true) : upd (bkT S nc m s n) (20 * m + 4 * s4 s + n) (nI (oP (mTop S nc m s n))) = bkT S nc m s (n + 1) := by
  funext q
  unfold bkT upd
  dsimp only
  by_cases hq : q = 20 * m + 4 * s4 s + n
  · subst hq
    rw [if_pos rfl, show 20 * m + 4 * s4 s + n - (20 * m + 4 * s4 s) = n by omega, if_pos ⟨by omega, by omega, h⟩]
  · rw [if_neg hq]
    by_cases h2 : 20 * m + 4 * s4 s ≤ q ∧ q < 20 * m + 4 * s4 s + n ∧ nhB S (S 18 5 (6 * (11 * m + s) + (q - (20 * m + 4 * s4 s)))) = true
    · rw [if_pos h2, if_pos ⟨h2.1, by omega, h2.2.2⟩]
    · rw [if_neg h2, if_neg (fun z => h2 ⟨z.1, by omega, z.2.2⟩)]
theorem bkT_f {S : Mem} {nc m s n : Nat} (h : nhB S (S 18 5 (6 * (11 * m + s) + n)) = false) : bkT S nc m s n = bkT S nc m s (n + 1) := by
  funext q
  unfold bkT
  by_cases h2 : 20 * m + 4 * s4 s ≤ q ∧ q < 20 * m + 4 * s4 s + n ∧ nhB S (S 18 5 (6 * (11 * m + s) + (q - (20 * m + 4 * s4 s)))) = true
  · rw [if_pos h2, if_pos ⟨h2.1, by omega, h2.2.2⟩]
  · rw [if_neg h2, if_neg (fun z => ?_)]
    rcases Nat.lt_or_ge q (20 * m + 4 * s4 s + n) with y | y
    · exact h2 ⟨z.1, y, z.2.2⟩
    · have e : q = 20 * m + 4 * s4 s + n := by omega
      rw [e, show 20 * m + 4 * s4 s + n - (20 * m + 4 * s4 s) = n by omega, h] at z
      cases z.2.2
theorem LR_bkA {S : Mem} {ng nm nc t pa rk m s : Nat} (hL : LR S ng nm nc t pa rk) (hm : m < 3) (hs : s < 4 ∨ s = 10) : LR (bkA S nc m s) ng nm nc t pa rk := by
  have h18 : ∀ i, i ≠ 5 → bkA S nc m s 18 i = S 18 i := fun i hi => (uS_n (fun z => absurd z.1 (by decide))).trans (uS_n (fun z => hi z.2))
  have h22 : ∀ i, i ≠ 2 → bkA S nc m s 22 i = S 22 i := fun i hi => (uS_n (fun z => hi z.2)).trans (uS_n (fun z => absurd z.1 (by decide)))
  have e5 : bkA S nc m s 18 5 = gbV S nc m s 6 := (uS_n (fun z => absurd z.1 (by decide))).trans uS_s
  have e2 : bkA S nc m s 22 2 = bkT S nc m s 4 := uS_s
  have hs4 := s10_s4 hs
  refine LR_t hL h18 h22 (fun m' hm' s' hs' k hk => ?_) (fun m' hm' s' hs' k hk hz => ?_)
  · rw [e5, e2]
    have old := hL.2.2.2.2.1 m' hm' s' hs' k hk
    by_cases hq : m' = m ∧ s' = s4 s
    · obtain ⟨rfl, rfl⟩ := hq
      rw [hs4.1] at old ⊢
      cases hn : nhB S (S 18 5 (6 * (11 * m' + s) + k)) with
      | true =>
        have g1 : gbV S nc m' s 6 (6 * (11 * m' + s) + k) = oI (mTop S nc m' s k) := by
          unfold gbV
          rw [if_pos ⟨by omega, by omega, hn⟩, show 6 * (11 * m' + s) + k - 6 * (11 * m' + s) = k by omega]
        have g2 : bkT S nc m' s 4 (20 * m' + 4 * s4 s + k) = nI (oP (mTop S nc m' s k)) := by
          unfold bkT
          rw [show 20 * m' + 4 * s4 s + k - (20 * m' + 4 * s4 s) = k by omega, if_pos ⟨by omega, by omega, hn⟩]
        rw [g1, g2]
        exact top_pair
      | false =>
        have g1 : gbV S nc m' s 6 (6 * (11 * m' + s) + k) = S 18 5 (6 * (11 * m' + s) + k) := by
          unfold gbV
          exact if_neg (fun z => by rw [hn] at z; cases z.2.2)
        have g2 : bkT S nc m' s 4 (20 * m' + 4 * s4 s + k) = S 22 2 (20 * m' + 4 * s4 s + k) := by
          unfold bkT
          rw [show 20 * m' + 4 * s4 s + k - (20 * m' + 4 * s4 s) = k by omega, if_neg (fun z => by rw [hn] at z; cases z.2.2)]
        rw [g1, g2]
        exact old
    · have g1 : gbV S nc m s 6 (6 * (11 * m' + s10 s') + k) = S 18 5 (6 * (11 * m' + s10 s') + k) := by
        unfold gbV
        refine if_neg (fun z => ?_)
        have := s10_in (m := m') (m' := m) (k' := k) (k := 6 * (11 * m' + s10 s') + k - 6 * (11 * m + s)) hs hs' (by omega) (by omega) (by omega)
        exact hq ⟨this.1, this.2.1⟩
      have g2 : bkT S nc m s 4 (20 * m' + 4 * s' + k) = S 22 2 (20 * m' + 4 * s' + k) := by
        unfold bkT
        exact if_neg (fun z => by omega)
      rw [g1, g2]
      exact old
  · rw [e5]
    have old := hL.2.2.2.2.2.1 m' hm' s' hs' k hk hz
    unfold gbV
    rw [if_neg (fun z => ?_)]
    · exact old
    · have z2 := z.2.2
      rw [old] at z2
      cases z2
/-- a step of a machine: its code, and the memory behind it -/
def stN (S : Mem) (nc m left : Nat) : Nat := bif mHalt S m then 1 else bif decide (S 17 0 1 < S 18 4 m) then 0 else bif decide (left = 0) then 0 else bif decide (mFar S nc m (grp S m) ≠ 0) then 2 else 0
def stA (S : Mem) (nc m left : Nat) : Mem := bif mHalt S m then bkA S nc m ((lay (S 18 2) (grp S m)).getD (bkF S m) 0) else bif decide (S 17 0 1 < S 18 4 m) then S else bif decide (left = 0) then S else match mFar S nc m (grp S m) with
  | 0 => S
  | i + 1 => tkA S nc m ((lay (S 18 2) (grp S m)).getD i 0)
theorem far_lt {S : Mem} {nc m g i : Nat} (h : mFar S nc m g = i + 1) : i < (lay (S 18 2) g).length := by
  have := farN_le (fun i => mLag S nc m ((lay (S 18 2) g).getD i 0)) (lay (S 18 2) g).length
  unfold mFar at h
  omega
theorem LR_stA {S : Mem} {ng nm nc t pa rk m left : Nat} (hL : LR S ng nm nc t pa rk) (hR : RI S ng nm nc t pa) (hm : m < nm) : LR (stA S nc m left) ng nm nc t pa rk := by
  have hng4 := hL.1.2.2.1
  have hnm3 := hL.1.2.2.2.1
  unfold stA
  cases hh : mHalt S m with
  | true => exact LR_bkA hL (by omega) (lay_lt hR hng4 hm (RI_halt hR hm hh).2)
  | false =>
    simp only [cond_false]
    cases decide (S 17 0 1 < S 18 4 m) with
    | true => exact hL
    | false =>
      cases decide (left = 0) with
      | true => exact hL
      | false =>
        simp only [cond_false]
        cases hf : mFar S nc m (grp S m) with
        | zero => exact hL
        | succ i => exact LR_tkA hL (by omega) (lay_lt hR hng4 hm (far_lt hf))
/-- the ghost's own step is the same -/
theorem stA_eq {S : Mem} {nc m left y : Nat} : (∀ k, k ≠ 22 → stA S nc m left k = (pSt nc (S, left, y) m).1 k) ∧ (pSt nc (S, left, y) m).2.1 = left - (if stN S nc m left = 2 then 1 else 0) ∧ (pSt nc (S, left, y) m).2.2 = y + (if 0 < stN S nc m left then 1 else 0) := by
  unfold stA stN pSt
  dsimp only
  cases mHalt S m with
  | true => exact ⟨fun k hk => funext fun i => uS_n (fun z => hk z.1), rfl, rfl⟩
  | false =>
    simp only [cond_false]
    cases decide (S 17 0 1 < S 18 4 m) with
    | true => exact ⟨fun k hk => rfl, rfl, rfl⟩
    | false =>
      simp only [cond_false]
      cases decide (left = 0) with
      | true => exact ⟨fun k hk => rfl, rfl, rfl⟩
      | false =>
        simp only [cond_false]
        unfold mTake
        cases hf : mFar S nc m (grp S m) with
        | zero => exact ⟨fun k hk => rfl, rfl, rfl⟩
        | succ i => exact ⟨fun k hk => funext fun j => uS_n (fun z => hk z.1), rfl, rfl⟩
/-! moving -/
def mvT (S : Mem) (m g n : Nat) : Nat → Int32 := ovl (S 22 2) (20 * m) n (fun i => bif decide (i / 4 ∈ pth (S 18 2) g) then S 22 2 (20 * m + i) else nI 0)
def mvA (S : Mem) (m g ng : Nat) : Mem := uS (uM (uS (uM S 18 3 m (nI g)) 18 5 (mvV S m g ng)) 22 1 (4 + m) (nI g)) 22 2 (mvT S m g 16)
def abF (S : Mem) (g : Nat) : Nat → Int32
  | 0 => nI 0
  | j + 1 => wthI (abF S g j) (nI ((pth (S 18 2) g).getD j 0)) true
theorem abF_cnt {S : Mem} {g ng q : Nat} (hp : PAR (S 18 2) ng) (hng : ng ≤ 4) (hg : g < ng) (hq : q < 4) : ∀ n, n ≤ (pth (S 18 2) g).length → (cntI (abF S g n) (nI q) = true ↔ ∃ j, j < n ∧ (pth (S 18 2) g).getD j 0 = q)
  | 0, _ => by
    have : ∀ q, q < 8 → cntI (nI 0) (nI q) = false := by decide +kernel
    constructor
    · intro z
      rw [show abF S g 0 = nI 0 from rfl, this q (by omega)] at z
      cases z
    · rintro ⟨j, hj, -⟩
      omega
  | n + 1, hn => by
    have hin := pth_in hp (show ng ≤ 10 by omega) hg (i := n) (by omega)
    have ih := abF_cnt hp hng hg hq n (by omega)
    unfold abF
    rw [wth_cnt _ true (by omega) (by omega)]
    by_cases h : q = (pth (S 18 2) g).getD n 0
    · rw [if_pos h]
      exact ⟨fun _ => ⟨n, by omega, h.symm⟩, fun _ => rfl⟩
    · rw [if_neg h, ih]
      constructor
      · rintro ⟨j, hj, e⟩; exact ⟨j, by omega, e⟩
      · rintro ⟨j, hj, e⟩
        rcases Nat.lt_or_ge j n with y | y
        · exact ⟨j, y, e⟩
        · exact absurd (by rw [← e, show j = n by omega]) h
theorem abF_mem {S : Mem} {g ng q : Nat} (hp : PAR (S 18 2) ng) (hng : ng ≤ 4) (hg : g < ng) (hq : q < 4) : cntI (abF S g (pth (S 18 2) g).length) (nI q) = decide (q ∈ pth (S 18 2) g) := by
  rw [Bool.eq_iff_iff, abF_cnt hp hng hg hq _ (Nat.le_refl _), decide_eq_true_iff]
  constructor
  · rintro ⟨j, hj, e⟩
    rw [← e, List.getD_eq_getElem?_getD, List.getElem?_eq_getElem hj]
    exact List.getElem_mem hj
  · intro h
    obtain ⟨j, hj, e⟩ := List.mem_iff_getElem.mp h
    exact ⟨j, hj, by rw [List.getD_eq_getElem?_getD, List.getElem?_eq_getElem hj]; exact e⟩
theorem LR_mvA {S : Mem} {ng nm nc t pa rk m g : Nat} (hL : LR S ng nm nc t pa rk) (hR : RI S ng nm nc t pa) (hm : m < nm) (hg : g < ng) : LR (mvA S m g ng) ng nm nc t pa rk := by
  have hng4 := hL.1.2.2.1
  have hnm3 := hL.1.2.2.2.1
  have hpl := pth_len hR.2.2.2.2.2.1 hR.1.2.2 _ _ (Nat.lt_succ_self _) hg
  have h18 : ∀ i, i ≠ 5 → i ≠ 3 → mvA S m g ng 18 i = S 18 i := fun i hi hj => (uS_n (fun z => absurd z.1 (by decide))).trans ((uS_n (fun z => absurd z.1 (by decide))).trans ((uS_n (fun z => hi z.2)).trans (uS_n (fun z => hj z.2))))
  have h22 : ∀ i, i ≠ 2 → i ≠ 1 → mvA S m g ng 22 i = S 22 i := fun i hi hj => (uS_n (fun z => hi z.2)).trans ((uS_n (fun z => hj z.2)).trans ((uS_n (fun z => absurd z.1 (by decide))).trans (uS_n (fun z => absurd z.1 (by decide)))))
  have e5 : mvA S m g ng 18 5 = mvV S m g ng := (uS_n (fun z => absurd z.1 (by decide))).trans ((uS_n (fun z => absurd z.1 (by decide))).trans uS_s)
  have e3 : mvA S m g ng 18 3 = upd (S 18 3) m (nI g) := (uS_n (fun z => absurd z.1 (by decide))).trans ((uS_n (fun z => absurd z.1 (by decide))).trans ((uS_n (fun z => absurd z.2 (by decide))).trans uS_s))
  have e2 : mvA S m g ng 22 2 = mvT S m g 16 := uS_s
  have e1 : mvA S m g ng 22 1 = upd (S 22 1) (4 + m) (nI g) := (uS_n (fun z => absurd z.2 (by decide))).trans uS_s
  obtain ⟨hQ, hD, hG, hN, hT, hZ, hC, hCz, hA, hB, hE⟩ := hL
  refine ⟨LQ_fr hQ (h22 0 (by decide) (by decide)), ?_, ?_, ?_, ?_, ?_, ?_, ?_, ?_, ?_, ?_⟩
  · unfold LD; rw [h22 0 (by decide) (by decide), h18 0 (by decide) (by decide)]; exact hD
  · unfold LG; rw [h22 0 (by decide) (by decide), h18 1 (by decide) (by decide)]; exact hG
  · unfold LN
    rw [e1, e3, h18 2 (by decide) (by decide), h18 4 (by decide) (by decide)]
    refine ⟨fun q hq => ?_, fun q hq => ?_, fun q hq => ?_⟩
    · unfold upd; rw [if_neg (by omega)]; exact hN.1 q hq
    · unfold upd
      by_cases hqm : q = m
      · rw [if_pos (by omega), if_pos hqm]
      · rw [if_neg (by omega), if_neg hqm]; exact hN.2.1 q hq
    · unfold upd; rw [if_neg (by omega)]; exact hN.2.2 q hq
  · intro m' hm' s' hs' k hk
    rw [e5, e2]
    have old := hT m' hm' s' hs' k hk
    have h10 : s10 s' ≤ 10 ∧ (s' < 4 → s10 s' = s') ∧ (s' = 4 → s10 s' = 10) := by
      unfold s10
      refine ⟨by split <;> omega, fun h => if_neg (by omega), fun h => if_pos h⟩
    have hng1 : 1 ≤ ng := hR.1.2.1
    by_cases hq : m' = m ∧ s' < 4 ∧ s' ∉ pth (S 18 2) g
    · obtain ⟨rfl, h4, hnp⟩ := hq
      have g2 : mvT S m' g 16 (20 * m' + 4 * s' + k) = nI 0 := by
        rw [show 20 * m' + 4 * s' + k = 20 * m' + (4 * s' + k) by omega]
        have := ovl_in (f := S 22 2) (b := 20 * m') (n := 16) (v := fun i => bif decide (i / 4 ∈ pth (S 18 2) g) then S 22 2 (20 * m' + i) else nI 0) (k := 4 * s' + k) (by omega)
        refine this.trans ?_
        rw [show (4 * s' + k) / 4 = s' by omega, decide_eq_false hnp]; rfl
      have g1 : mvV S m' g ng (6 * (11 * m' + s10 s') + k) = -1 := by
        rcases Nat.lt_or_ge s' ng with w | w
        · unfold mvV
          rw [if_pos]
          rw [h10.2.1 h4]
          exact ⟨by omega, by omega, by rw [show (6 * (11 * m' + s') + k - 66 * m') / 6 = s' by omega]; exact hnp⟩
        · unfold mvV
          split
          · rfl
          · have hns : s' ∉ pth (S 18 2) (grp S m') := fun z => by
              have h1 := (pth_len hR.2.2.2.2.2.1 hR.1.2.2 _ _ (Nat.lt_succ_self _) (RI_grp hR hm).1).2.2.1 s' z
              have h2 := (RI_grp hR hm).1
              omega
            rw [h10.2.1 h4]
            exact hR.2.2.2.2.2.2.2.2 m' hm s' (by omega) hns k (by omega)
      rw [g1, g2]
      exact Or.inl ⟨rfl, rfl⟩
    · have g2 : mvT S m g 16 (20 * m' + 4 * s' + k) = S 22 2 (20 * m' + 4 * s' + k) := by
        by_cases hi : 20 * m ≤ 20 * m' + 4 * s' + k ∧ 20 * m' + 4 * s' + k < 20 * m + 16
        · have hmm : m' = m ∧ s' < 4 := by omega
          have hp2 : s' ∈ pth (S 18 2) g := Classical.byContradiction fun z => hq ⟨hmm.1, hmm.2, z⟩
          obtain ⟨rfl, h4⟩ := hmm
          rw [show 20 * m' + 4 * s' + k = 20 * m' + (4 * s' + k) by omega]
          have := ovl_in (f := S 22 2) (b := 20 * m') (n := 16) (v := fun i => bif decide (i / 4 ∈ pth (S 18 2) g) then S 22 2 (20 * m' + i) else nI 0) (k := 4 * s' + k) (by omega)
          refine this.trans ?_
          rw [show (4 * s' + k) / 4 = s' by omega, decide_eq_true hp2]; rfl
        · exact ovl_out (by omega)
      have g1 : mvV S m g ng (6 * (11 * m' + s10 s') + k) = S 18 5 (6 * (11 * m' + s10 s') + k) := by
        unfold mvV
        refine if_neg (fun z => ?_)
        have hmm : m' = m ∧ s10 s' < ng := by omega
        have h4 : s' < 4 := by
          rcases Nat.lt_or_ge s' 4 with y | y
          · exact y
          · have := h10.2.2 (by omega); omega
        have z3 := z.2.2
        rw [hmm.1, h10.2.1 h4, show (6 * (11 * m + s') + k - 66 * m) / 6 = s' by omega] at z3
        exact hq ⟨hmm.1, h4, z3⟩
      rw [g1, g2]
      exact old
  · intro m' hm' s' hs' k hk hz
    rw [e5]
    unfold mvV
    split
    · rfl
    · exact hZ m' hm' s' hs' k hk hz
  · intro c hc
    unfold LC1
    rw [h18 7 (by decide) (by decide), h18 8 (by decide) (by decide), h18 10 (by decide) (by decide), h18 11 (by decide) (by decide), h18 12 (by decide) (by decide), h22 3 (by decide) (by decide)]
    exact hC c hc
  · unfold LCz; rw [h22 3 (by decide) (by decide)]; exact hCz
  · unfold LA LA1; rw [h22 4 (by decide) (by decide), h18 13 (by decide) (by decide), h18 14 (by decide) (by decide)]; exact hA
  · unfold LB; rw [h22 5 (by decide) (by decide), h18 6 (by decide) (by decide), h18 9 (by decide) (by decide)]; exact hB
  · unfold LE; rw [h22 6 (by decide) (by decide), h18 15 (by decide) (by decide)]; exact hE
