/-! leaving under suspicion, and days, as functions -/
def vGiv (S : Mem) (p c : Nat) : Mem := bif decide (S 18 13 (8 * c + p) = nI 1) && decide (S 17 0 1 - S 18 14 (8 * c + p) < nI 30) then uM S 18 13 (8 * c + p) (nI 2) else S
def vSt2 (S : Mem) (c : Nat) (held : Bool) : Mem := bif held && decide (mGood S c < 2) then uM S 18 11 c (nI 2) else S
def vSt3 (S : Mem) (p c : Nat) : Mem := bif decide (S 18 6 c = nI p) && decide (S 17 0 1 - S 18 9 c < nI 30) then uM S 18 11 c (nI 3) else S
def vStep (S : Mem) (p c : Nat) : Mem := vSt3 (vSt2 (vGiv S p c) c (decide (S 18 11 c = nI 1))) p c
def vCnt1 (S : Mem) (p c : Nat) : Nat := bif decide (S 18 11 c = nI 1) && decide (vStep S p c 18 11 c ≠ nI 1) then 1 else 0
def vMem (S : Mem) (p : Nat) : Nat → Mem
  | 0 => S
  | n + 1 => vStep (vMem S p n) p n
def vCnt (S : Mem) (p : Nat) : Nat → Nat
  | 0 => 0
  | n + 1 => vCnt S p n + vCnt1 (vMem S p n) p n
def vScr (k i : Nat) : Prop := k = 18 ∧ (i = 13 ∨ i = 11)
theorem vStep_fr {S : Mem} {p c k i : Nat} (h : ¬ vScr k i) : vStep S p c k i = S k i := by
  have u1 : ∀ (T : Mem) (j : Nat) (x : Int32), uM T 18 13 j x k i = T k i := fun T j x => uS_n (fun z => h ⟨z.1, Or.inl z.2⟩)
  have u2 : ∀ (T : Mem) (j : Nat) (x : Int32), uM T 18 11 j x k i = T k i := fun T j x => uS_n (fun z => h ⟨z.1, Or.inr z.2⟩)
  have e1 : vGiv S p c k i = S k i := by
    unfold vGiv
    cases (decide (S 18 13 (8 * c + p) = nI 1) && decide (S 17 0 1 - S 18 14 (8 * c + p) < nI 30)) with
    | true => exact u1 _ _ _
    | false => rfl
  have e2 : ∀ (T : Mem) (b : Bool), vSt2 T c b k i = T k i := by
    intro T b
    unfold vSt2
    cases (b && decide (mGood T c < 2)) with
    | true => exact u2 _ _ _
    | false => rfl
  have e3 : ∀ (T : Mem), vSt3 T p c k i = T k i := by
    intro T
    unfold vSt3
    cases (decide (T 18 6 c = nI p) && decide (T 17 0 1 - T 18 9 c < nI 30)) with
    | true => exact u2 _ _ _
    | false => rfl
  unfold vStep
  rw [e3, e2, e1]
theorem vMem_fr {S : Mem} {p k i : Nat} (h : ¬ vScr k i) : ∀ n, vMem S p n k i = S k i
  | 0 => rfl
  | n + 1 => by rw [vMem, vStep_fr h, vMem_fr h n]
def vUnt (S : Mem) (nm : Nat) : Nat → Int32 := ovl (S 18 4) 0 nm (fun m => bif mHalt S m then S 17 0 1 else S 18 4 m)
theorem ovl0_s {f v : Nat → Int32} {n : Nat} : upd (ovl f 0 n v) n (v n) = ovl f 0 (n + 1) v := by
  have h := ovl_s (f := f) (v := v) (b := 0) (n := n)
  rw [Nat.zero_add] at h
  exact h
def rVoidM (S : Mem) (p nc nm : Nat) : Mem := uS (vMem S p nc) 18 4 (vUnt (vMem S p nc) nm)
def rLeave (S : Mem) (x : Int32) (is : Bool) (nm nc : Nat) : Int32 × Mem := bif rgB x 8 then (bif decide (S 18 1 (ix x) ≤ 0) then (bif is then (nI (vCnt (uM S 18 1 (ix x) (nI 2)) (ix x) nc), rVoidM (uM S 18 1 (ix x) (nI 2)) (ix x) nc nm) else (nI 0, uM S 18 1 (ix x) (nI 1))) else fl S 2) else fl S 1
def bkF (S : Mem) (m : Nat) : Nat := (fstN (fun i => mNhL S m ((lay (S 18 2) (grp S m)).getD i 0)) (lay (S 18 2) (grp S m)).length).getD 0
def pSt (nc : Nat) (q : Mem × Nat × Nat) (m : Nat) : Mem × Nat × Nat :=
  bif mHalt q.1 m then (mBackAt q.1 nc m ((lay (q.1 18 2) (grp q.1 m)).getD (bkF q.1 m) 0), q.2.1, q.2.2 + 1)
  else bif decide (q.1 17 0 1 < q.1 18 4 m) then q else bif decide (q.2.1 = 0) then q else bif decide (mFar q.1 nc m (grp q.1 m) ≠ 0) then (mTake q.1 nc m (grp q.1 m), q.2.1 - 1, q.2.2 + 1) else q
def pSts (nc : Nat) (q : Mem × Nat × Nat) : Nat → Mem × Nat × Nat
  | 0 => q
  | n + 1 => pSt nc (pSts nc q n) n
def rDay (S : Mem) (nc nm pa : Nat) : Mem × Nat := ((pSts nc (uM S 17 0 1 (S 17 0 1 + nI 1), pa, 0) nm).1, (pSts nc (uM S 17 0 1 (S 17 0 1 + nI 1), pa, 0) nm).2.2)
def rDays (S : Mem) (nc nm pa : Nat) : Nat → Mem × Nat
  | 0 => (S, 0)
  | n + 1 => ((rDay (rDays S nc nm pa n).1 nc nm pa).1, (rDays S nc nm pa n).2 + (rDay (rDays S nc nm pa n).1 nc nm pa).2)
theorem lay_mem {par : Nat → Int32} {g s : Nat} (h : s ∈ lay par g) : ∃ i, i < (lay par g).length ∧ (lay par g).getD i 0 = s := by
  obtain ⟨i, hi, e⟩ := List.mem_iff_getElem.mp h
  exact ⟨i, hi, by rw [List.getD_eq_getElem?_getD, List.getElem?_eq_getElem hi]; exact e⟩
theorem lay_in {par : Nat → Int32} {g i : Nat} (h : i < (lay par g).length) : (lay par g).getD i 0 = 10 ∨ (lay par g).getD i 0 ∈ pth par g := by
  cases i with
  | zero => exact Or.inl rfl
  | succ i =>
    refine Or.inr ?_
    have hi : i < (pth par g).length := Nat.lt_of_succ_lt_succ h
    show (pth par g).getD i 0 ∈ pth par g
    rw [List.getD_eq_getElem?_getD, List.getElem?_eq_getElem hi]
    exact List.getElem_mem hi
/-- only what is taken has changed, by layers of machines -/
theorem RI_tk {S : Mem} {ng nm nc t pa : Nat} {f : Nat → Int32} (h : RI S ng nm nc t pa) (hf : ∀ q, q < 792 → f q = -1 ∨ ∃ c, c < 40 ∧ f q = nI c) (hl : ∀ m, m < nm → ∀ s, s ≤ 9 → s ∉ pth (S 18 2) (grp S m) → ∀ k, k < 6 → f (6 * (11 * m + s) + k) = -1) : RI (uS S 18 5 f) ng nm nc t pa :=
  ⟨h.1, h.2.1, h.2.2.1, h.2.2.2.1, h.2.2.2.2.1, h.2.2.2.2.2.1, h.2.2.2.2.2.2.1, hf, hl⟩
theorem RI_grp {S : Mem} {ng nm nc t pa : Nat} (h : RI S ng nm nc t pa) {m : Nat} (hm : m < nm) : grp S m < ng ∧ S 18 3 m = nI (grp S m) := by
  obtain ⟨g, hg, e⟩ := h.2.2.2.2.2.2.1 m hm
  have : grp S m = g := by unfold grp; rw [e]; exact ix_nI (by have := h.1.2.2; omega)
  rw [this]; exact ⟨hg, e⟩
theorem RI_takeAt {S : Mem} {ng nm nc t pa m i : Nat} (h : RI S ng nm nc t pa) (hm : m < nm) (hi : i < (lay (S 18 2) (grp S m)).length) : RI (mTakeAt S nc m ((lay (S 18 2) (grp S m)).getD i 0)) ng nm nc t pa := by
  have hs := lay_in hi
  obtain ⟨s, hsd⟩ : ∃ s, s = (lay (S 18 2) (grp S m)).getD i 0 := ⟨_, rfl⟩
  rw [← hsd] at hs ⊢
  have hnc := h.2.2.1.2
  refine RI_tk h (fun q hq => ?_) (fun m' hm' s' hs' hns k hk => ?_)
  · unfold ovl
    split
    · cases ht : mTop S nc m s (q - 6 * (11 * m + s)) with
      | none => exact Or.inl (by show oI (mTop S nc m s (q - 6 * (11 * m + s))) = -1; rw [ht]; rfl)
      | some c => exact Or.inr ⟨c, Nat.lt_of_lt_of_le (mTop_lt ht) hnc, by show oI (mTop S nc m s (q - 6 * (11 * m + s))) = nI c; rw [ht]; rfl⟩
    · exact h.2.2.2.2.2.2.2.1 q hq
  · unfold ovl
    rw [if_neg (fun z => ?_)]
    · exact h.2.2.2.2.2.2.2.2 m' hm' s' hs' hns k hk
    · have hs10 : s ≤ 10 := by
        rcases hs with e | e
        · omega
        · have hp := pth_len h.2.2.2.2.2.1 h.1.2.2 _ _ (Nat.lt_succ_self _) (RI_grp h hm).1
          have h1 := hp.2.2.1 s e
          have h2 := (RI_grp h hm).1
          have h3 := h.1.2.2
          omega
      have e1 : m' = m := by omega
      have e2 : s' = s := by omega
      subst e1; subst e2
      rcases hs with e | e
      · omega
      · exact hns e
theorem RI_backAt {S : Mem} {ng nm nc t pa m i : Nat} (h : RI S ng nm nc t pa) (hm : m < nm) (hi : i < (lay (S 18 2) (grp S m)).length) : RI (mBackAt S nc m ((lay (S 18 2) (grp S m)).getD i 0)) ng nm nc t pa := by
  have hs := lay_in hi
  obtain ⟨s, hsd⟩ : ∃ s, s = (lay (S 18 2) (grp S m)).getD i 0 := ⟨_, rfl⟩
  rw [← hsd] at hs ⊢
  have hnc := h.2.2.1.2
  refine RI_tk h (fun q hq => ?_) (fun m' hm' s' hs' hns k hk => ?_)
  · unfold gbV
    split
    · cases ht : mTop S nc m s (q - 6 * (11 * m + s)) with
      | none => exact Or.inl rfl
      | some c => exact Or.inr ⟨c, Nat.lt_of_lt_of_le (mTop_lt ht) hnc, rfl⟩
    · exact h.2.2.2.2.2.2.2.1 q hq
  · have hv := h.2.2.2.2.2.2.2.2 m' hm' s' hs' hns k hk
    unfold gbV
    rw [if_neg (fun z => ?_)]
    · exact hv
    · have := z.2.2
      rw [hv] at this
      cases this
/-- a machine that is stopped has a layer with a change that is not HELD -/
theorem RI_halt {S : Mem} {ng nm nc t pa m : Nat} (h : RI S ng nm nc t pa) (hm : m < nm) (hh : mHalt S m = true) : fstN (fun i => mNhL S m ((lay (S 18 2) (grp S m)).getD i 0)) (lay (S 18 2) (grp S m)).length = some (bkF S m) ∧ bkF S m < (lay (S 18 2) (grp S m)).length := by
  obtain ⟨j, hj, hn⟩ := anyB_t.mp hh
  have hin : j / 6 ∈ lay (S 18 2) (grp S m) := by
    rcases Nat.lt_or_ge (j / 6) 10 with q | q
    · by_cases hp : j / 6 ∈ pth (S 18 2) (grp S m)
      · exact List.mem_cons_of_mem _ hp
      · have := h.2.2.2.2.2.2.2.2 m hm (j / 6) (by omega) hp (j % 6) (by omega)
        rw [show 6 * (11 * m + j / 6) + j % 6 = 66 * m + j by omega] at this
        rw [this] at hn; cases hn
    · rw [show j / 6 = 10 by omega]; exact List.mem_cons_self
  obtain ⟨i, hi, e⟩ := lay_mem hin
  have hany : anyB (fun i => mNhL S m ((lay (S 18 2) (grp S m)).getD i 0)) (lay (S 18 2) (grp S m)).length = true := by
    refine anyB_t.mpr ⟨i, hi, ?_⟩
    rw [e]
    refine anyB_t.mpr ⟨j % 6, by omega, ?_⟩
    rw [show 6 * (11 * m + j / 6) + j % 6 = 66 * m + j by omega]; exact hn
  obtain ⟨f, hf⟩ := fstN_any hany
  have : bkF S m = f := by unfold bkF; rw [hf]; rfl
  rw [this]
  exact ⟨hf, (fstN_some.mp hf).1⟩
theorem RI_take {S : Mem} {ng nm nc t pa m : Nat} (h : RI S ng nm nc t pa) (hm : m < nm) : RI (mTake S nc m (grp S m)) ng nm nc t pa := by
  unfold mTake
  cases hf : mFar S nc m (grp S m) with
  | zero => exact h
  | succ i =>
    have := farN_le (fun i => mLag S nc m ((lay (S 18 2) (grp S m)).getD i 0)) (lay (S 18 2) (grp S m)).length
    exact RI_takeAt h hm (by unfold mFar at hf; omega)
theorem RI_pSt {ng nm nc t pa m : Nat} {q : Mem × Nat × Nat} (h : RI q.1 ng nm nc t pa) (hm : m < nm) : RI (pSt nc q m).1 ng nm nc t pa := by
  unfold pSt
  cases hh : mHalt q.1 m with
  | true => exact RI_backAt h hm (RI_halt h hm hh).2
  | false =>
    simp only [cond_false]
    cases decide (q.1 17 0 1 < q.1 18 4 m) with
    | true => exact h
    | false =>
      cases decide (q.2.1 = 0) with
      | true => exact h
      | false =>
        cases decide (mFar q.1 nc m (grp q.1 m) ≠ 0) with
        | true => exact RI_take h hm
        | false => exact h
theorem RI_pSts {ng nm nc t pa : Nat} {q : Mem × Nat × Nat} (h : RI q.1 ng nm nc t pa) : ∀ n, n ≤ nm → RI (pSts nc q n).1 ng nm nc t pa
  | 0, _ => h
  | n + 1, hn => RI_pSt (RI_pSts h n (by omega)) (by omega)
theorem RI_now {S : Mem} {ng nm nc t pa : Nat} (h : RI S ng nm nc t pa) (ht : t + 1 < 2 ^ 20) : RI (uM S 17 0 1 (S 17 0 1 + nI 1)) ng nm nc (t + 1) pa :=
  ⟨h.1, h.2.1, h.2.2.1, ⟨by show S 17 0 1 + nI 1 = nI (t + 1); rw [h.2.2.2.1.1, nI_add], ht⟩, h.2.2.2.2.1, h.2.2.2.2.2.1, h.2.2.2.2.2.2.1, h.2.2.2.2.2.2.2.1, h.2.2.2.2.2.2.2.2⟩
theorem RI_day {S : Mem} {ng nm nc t pa : Nat} (h : RI S ng nm nc t pa) (ht : t + 1 < 2 ^ 20) : RI (rDay S nc nm pa).1 ng nm nc (t + 1) pa := RI_pSts (q := (uM S 17 0 1 (S 17 0 1 + nI 1), pa, 0)) (RI_now h ht) nm (Nat.le_refl _)
theorem RI_days {S : Mem} {ng nm nc t pa : Nat} (h : RI S ng nm nc t pa) : ∀ d, t + d < 2 ^ 20 → RI (rDays S nc nm pa d).1 ng nm nc (t + d) pa
  | 0, _ => h
  | d + 1, hd => RI_day (RI_days h d (by omega)) (by omega)
def rPass (S : Mem) (x : Int32) (nc nm pa : Nat) : Int32 × Mem := bif inR x (nI 1) (nI 60) then (nI (rDays S nc nm pa (ix x)).2, (rDays S nc nm pa (ix x)).1) else fl S 1
theorem lI_pred' (n : Nat) : nI (n + 1) + Int32.ofInt (-1) = nI n := by
  have e : Int32.ofInt (-1) = -1 := by decide
  rw [e]; exact pk_m1 n
