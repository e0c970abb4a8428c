/-! what is taken, due, stopped, lagging, good: the law's words for the ghost's -/
def itR (nc : Nat) (ch : Int32) (x : Nat) : Prop := (ch = -1 ∧ x = 0) ∨ ∃ c, c < nc ∧ ch = nI c ∧ x = c + 1
theorem ch_it {S : Mem} {ng nm nc t pa rk m s k : Nat} (hL : LR S ng nm nc t pa rk) (hm : m < 3) (hs : s < 4 ∨ s = 10) (hk : k < 4) (tk : Bool) : ∃ x, itR nc (chI S nc m tk s k) x ∧ (tk = true → S 22 2 (20 * m + 4 * s4 s + k) = nI x) ∧ (tk = false → oP (mTop S nc m s k) = x) := by
  obtain ⟨-, -, -, -, hT, -⟩ := hL
  obtain ⟨e1, e2⟩ := s10_s4 hs
  cases tk with
  | true =>
    have := hT m hm (s4 s) e2 k hk
    rw [e1] at this
    rcases this with ⟨a, b⟩ | ⟨c, a1, a2, a3⟩
    · exact ⟨0, Or.inl ⟨a, rfl⟩, fun _ => b, fun z => (by cases z)⟩
    · exact ⟨c + 1, Or.inr ⟨c, a1, a2, rfl⟩, fun _ => a3, fun z => (by cases z)⟩
  | false =>
    refine ⟨oP (mTop S nc m s k), ?_, fun z => (by cases z), fun _ => rfl⟩
    unfold chI
    cases ht : mTop S nc m s k with
    | none => exact Or.inl ⟨rfl, rfl⟩
    | some c => exact Or.inr ⟨c, mTop_lt ht, rfl, rfl⟩
theorem top_hi {S : Mem} {ng nm nc t pa rk k : Nat} {pl : Int32} (hL : LR S ng nm nc t pa rk) (h4 : 4 ≤ k) (h6 : k < 6) : mTopI S nc pl (nI k) = none := by
  obtain ⟨-, -, -, -, -, -, hC, -⟩ := hL
  refine bN_no fun d hd => ?_
  obtain ⟨p', k', w, st, a1, -, -, a4, a5, a6, b1, b2, b3, b4, b5, b6, b7, b8, b9⟩ := hC d hd
  unfold mOkI
  rw [b4, decide_eq_false (p := nI k' = nI k) (fun z => by have := (nI_eq (by omega) (by omega)).mp z; omega), Bool.and_false, Bool.and_false]
theorem ch_hi {S : Mem} {ng nm nc t pa rk m s k : Nat} (hL : LR S ng nm nc t pa rk) (hm : m < 12) (hs : s ≤ 10) (h4 : 4 ≤ k) (h6 : k < 6) (tk : Bool) : chI S nc m tk s k = -1 := by
  unfold chI
  cases tk with
  | true => exact hL.2.2.2.2.2.1 m hm s hs k h6 (Or.inr (Or.inr h4))
  | false =>
    show oI (mTop S nc m s k) = -1
    unfold mTop
    rw [top_hi hL h4 h6]; rfl
theorem lag_4 {S : Mem} {ng nm nc t pa rk m s : Nat} (hL : LR S ng nm nc t pa rk) (hm : m < 3) (hs : s < 4 ∨ s = 10) : mLag S nc m s = anyB (fun k => decide (S 22 2 (20 * m + 4 * s4 s + k) ≠ nI (oP (mTop S nc m s k)))) 4 := by
  have hnc := hL.1.2.2.2.2.1
  have hz : ∀ k, 4 ≤ k → k < 6 → decide (S 18 5 (6 * (11 * m + s) + k) ≠ oI (mTop S nc m s k)) = false := by
    intro k h4 h6
    have e1 : S 18 5 (6 * (11 * m + s) + k) = -1 := ch_hi (nc := nc) hL (by omega) (by omega) h4 h6 true
    have e2 : oI (mTop S nc m s k) = -1 := ch_hi (nc := nc) hL (by omega) (by omega) h4 h6 false
    rw [e1, e2]
    exact decide_eq_false (fun z => z rfl)
  unfold mLag
  have e6 : ∀ f : Nat → Bool, anyB f 6 = (anyB f 4 || f 4 || f 5) := fun f => rfl
  rw [e6, hz 4 (by decide) (by decide), hz 5 (by decide) (by decide), Bool.or_false, Bool.or_false]
  refine anyB_cong fun k hk => decide_eq_decide.mpr ?_
  obtain ⟨x, x1, x2, -⟩ := ch_it hL hm hs hk true
  obtain ⟨y, y1, -, y3⟩ := ch_it hL hm hs hk false
  rw [x2 rfl, y3 rfl]
  have e1 : S 18 5 (6 * (11 * m + s) + k) = chI S nc m true s k := rfl
  have e2 : oI (mTop S nc m s k) = chI S nc m false s k := rfl
  rw [e1, e2]
  rcases x1 with ⟨a1, a2⟩ | ⟨c, a0, a1, a2⟩ <;> rcases y1 with ⟨b1, b2⟩ | ⟨d, b0, b1, b2⟩ <;> rw [a1, b1, a2, b2]
  · simp
  · exact ⟨fun _ z => by have := (nI_eq (by omega) (by omega)).mp z; omega, fun _ z => m1_ne (by omega) z.symm⟩
  · exact ⟨fun _ z => by have := (nI_eq (by omega) (by omega)).mp z; omega, fun _ z => m1_ne (by omega) z⟩
  · rw [ne_eq, ne_eq, nI_eq (by omega) (by omega), nI_eq (by omega) (by omega)]; omega
def hlB (S : Mem) (m i : Nat) : Bool := nhB S (S 18 5 (6 * (11 * m + s10 (i / 4)) + i % 4))
theorem halt_20 {S : Mem} {ng nm nc t pa rk m : Nat} (hL : LR S ng nm nc t pa rk) (hm : m < 3) : mHalt S m = anyB (hlB S m) 20 := by
  unfold mHalt
  rw [Bool.eq_iff_iff, anyB_t, anyB_t]
  constructor
  · rintro ⟨j, hj, h⟩
    have hq : 66 * m + j = 6 * (11 * m + j / 6) + j % 6 := by omega
    rw [hq] at h
    have hne : S 18 5 (6 * (11 * m + j / 6) + j % 6) ≠ -1 := of_decide_eq_true (Bool.and_eq_true_iff.mp h).1
    have hz := hL.2.2.2.2.2.1 m (by omega) (j / 6) (by omega) (j % 6) (by omega)
    have hk : j % 6 < 4 := by
      rcases Nat.lt_or_ge (j % 6) 4 with y | y
      · exact y
      · exact absurd (hz (Or.inr (Or.inr y))) hne
    have hs : j / 6 < 4 ∨ j / 6 = 10 := by
      rcases Nat.lt_or_ge (j / 6) 4 with y | y
      · exact Or.inl y
      · rcases Nat.lt_or_ge 9 (j / 6) with w | w
        · exact Or.inr (by omega)
        · exact absurd (hz (Or.inr (Or.inl ⟨y, w⟩))) hne
    obtain ⟨e1, e2⟩ := s10_s4 hs
    refine ⟨4 * s4 (j / 6) + j % 6, by omega, ?_⟩
    unfold hlB
    rw [show (4 * s4 (j / 6) + j % 6) / 4 = s4 (j / 6) by omega, show (4 * s4 (j / 6) + j % 6) % 4 = j % 6 by omega, e1]
    exact h
  · rintro ⟨i, hi, h⟩
    have h10 : s10 (i / 4) ≤ 10 := by unfold s10; split <;> omega
    refine ⟨6 * s10 (i / 4) + i % 4, by omega, ?_⟩
    rw [show 66 * m + (6 * s10 (i / 4) + i % 4) = 6 * (11 * m + s10 (i / 4)) + i % 4 by omega]
    exact h
theorem good_5 {S : Mem} {ng nm nc t pa rk c : Nat} (hL : LR S ng nm nc t pa rk) (hc : c < 12) : mGood S c = cntB (fun p => decide (0 < S 22 4 (5 * c + p))) 5 := by
  have ht := hL.1.2.2.2.2.2.1
  obtain ⟨h1, h2⟩ := hL.2.2.2.2.2.2.2.2.1 c hc
  unfold mGood
  have e8 : ∀ f : Nat → Bool, cntB f 8 = cntB f 5 + (if f 5 then 1 else 0) + (if f 6 then 1 else 0) + (if f 7 then 1 else 0) := fun f => rfl
  rw [e8, decide_eq_false (h2 5 (by decide) (by decide)), decide_eq_false (h2 6 (by decide) (by decide)), decide_eq_false (h2 7 (by decide) (by decide))]
  show cntB _ 5 = _
  refine cntB_cong fun p hp => decide_eq_decide.mpr ?_
  rcases h1 p hp with ⟨a, d, b1, b2, b3⟩ | ⟨a, b⟩
  · rw [b3]
    exact ⟨fun _ => by rw [i32_lt, toInt_nI (by omega)]; have z : (0 : Int32).toInt = 0 := rfl; omega, fun _ => a⟩
  · exact ⟨fun z => absurd z a, fun z => absurd z (Int32.not_lt.mpr b)⟩
/-! what decides -/
section DC
variable (S : Mem) (nc m : Nat) (tk : Bool) (k : Nat)
def dcS (i : Nat) : Bool := stopB S (chI S nc m tk ((lay (S 18 2) (grp S m)).getD i 0) k)
def dcW (i : Nat) : Int32 := bif decide (S 18 10 (ix (chI S nc m tk ((lay (S 18 2) (grp S m)).getD i 0) k)) = nI 100) then -1 else nI (100 * i + ix (chI S nc m tk ((lay (S 18 2) (grp S m)).getD i 0) k))
def dcX : Nat → Int32
  | 0 => -1
  | d + 1 => bif dcS S nc m tk k ((lay (S 18 2) (grp S m)).length - (d + 1)) then dcW S nc m tk k ((lay (S 18 2) (grp S m)).length - (d + 1)) else dcX d
def dcV : Int32 := dcX S nc m tk k (lay (S 18 2) (grp S m)).length
end DC
theorem dc_step {S : Mem} {nc m k n : Nat} {tk : Bool} (h : n < (lay (S 18 2) (grp S m)).length) : dcX S nc m tk k ((lay (S 18 2) (grp S m)).length - n) = bif dcS S nc m tk k n then dcW S nc m tk k n else dcX S nc m tk k ((lay (S 18 2) (grp S m)).length - (n + 1)) := by
  have e : (lay (S 18 2) (grp S m)).length - n = ((lay (S 18 2) (grp S m)).length - (n + 1)) + 1 := by omega
  rw [e]
  show (bif dcS S nc m tk k ((lay (S 18 2) (grp S m)).length - ((lay (S 18 2) (grp S m)).length - (n + 1) + 1)) then dcW S nc m tk k ((lay (S 18 2) (grp S m)).length - ((lay (S 18 2) (grp S m)).length - (n + 1) + 1)) else dcX S nc m tk k ((lay (S 18 2) (grp S m)).length - (n + 1))) = _
  rw [show (lay (S 18 2) (grp S m)).length - ((lay (S 18 2) (grp S m)).length - (n + 1) + 1) = n by omega]
theorem dc_first {S : Mem} {nc m k : Nat} {tk : Bool} : ∀ d, d ≤ (lay (S 18 2) (grp S m)).length → (∃ i, (lay (S 18 2) (grp S m)).length - d ≤ i ∧ i < (lay (S 18 2) (grp S m)).length ∧ dcS S nc m tk k i = true ∧ (∀ j, (lay (S 18 2) (grp S m)).length - d ≤ j → j < i → dcS S nc m tk k j = false) ∧ dcX S nc m tk k d = dcW S nc m tk k i) ∨ ((∀ j, (lay (S 18 2) (grp S m)).length - d ≤ j → j < (lay (S 18 2) (grp S m)).length → dcS S nc m tk k j = false) ∧ dcX S nc m tk k d = -1)
  | 0, _ => Or.inr ⟨fun j h1 h2 => by omega, rfl⟩
  | d + 1, hd => by
    unfold dcX
    cases hs : dcS S nc m tk k ((lay (S 18 2) (grp S m)).length - (d + 1)) with
    | true => exact Or.inl ⟨_, Nat.le_refl _, by omega, hs, fun j h1 h2 => by omega, rfl⟩
    | false =>
      rw [cond_false]
      rcases dc_first (S := S) (nc := nc) (m := m) (k := k) (tk := tk) d (by omega) with ⟨i, a1, a2, a3, a4, a5⟩ | ⟨a1, a2⟩
      · refine Or.inl ⟨i, by omega, a2, a3, fun j h1 h2 => ?_, a5⟩
        rcases Nat.lt_or_ge j ((lay (S 18 2) (grp S m)).length - d) with y | y
        · rw [show j = (lay (S 18 2) (grp S m)).length - (d + 1) by omega]; exact hs
        · exact a4 j y h2
      · refine Or.inr ⟨fun j h1 h2 => ?_, a2⟩
        rcases Nat.lt_or_ge j ((lay (S 18 2) (grp S m)).length - d) with y | y
        · rw [show j = (lay (S 18 2) (grp S m)).length - (d + 1) by omega]; exact hs
        · exact a1 j y h2
theorem dcV_lk {S : Mem} {nc m k : Nat} {tk : Bool} : dcV S nc m tk k = match lkI S nc m (grp S m) tk k (lay (S 18 2) (grp S m)).length with
    | none => -1
    | some i => dcW S nc m tk k i := by
  unfold dcV
  rcases dc_first (S := S) (nc := nc) (m := m) (k := k) (tk := tk) _ (Nat.le_refl _) with ⟨i, a1, a2, a3, a4, a5⟩ | ⟨a1, a2⟩
  · have : lkI S nc m (grp S m) tk k (lay (S 18 2) (grp S m)).length = some i := fstN_some.mpr ⟨a2, a3, fun j hj => a4 j (by omega) hj⟩
    rw [this, a5]
  · have : lkI S nc m (grp S m) tk k (lay (S 18 2) (grp S m)).length = none := fstN_none.mpr (fun j hj => a1 j (by omega) hj)
    rw [this, a2]
/-- what decides, beside what the ghost looks up -/
theorem dcV_T {S : Mem} {ng nm nc t pa rk m k : Nat} (hL : LR S ng nm nc t pa rk) (hR : RI S ng nm nc t pa) (hm : m < nm) (hk : k < 4) (tk : Bool) : (dcV S nc m tk k = -1 ∧ rLook S nc m (grp S m) tk k = (-1, -1, -1)) ∨ ∃ i c w, i < 5 ∧ c < nc ∧ w < 102 ∧ dcV S nc m tk k = nI (100 * i + c) ∧ rLook S nc m (grp S m) tk k = (nI w, nI i, nI c) ∧ S 22 3 (5 * c + 2) = nI w := by
  have hng4 := hL.1.2.2.1
  have hnm3 := hL.1.2.2.2.1
  have hnc := hL.1.2.2.2.2.1
  have hld := lay_dup hR hm
  rw [dcV_lk]
  unfold rLook lkR
  cases hi : lkI S nc m (grp S m) tk k (lay (S 18 2) (grp S m)).length with
  | none => exact Or.inl ⟨rfl, rfl⟩
  | some i =>
    obtain ⟨h1, h2, -⟩ := fstN_some.mp hi
    dsimp only
    unfold dcW
    obtain ⟨x, x1, -, -⟩ := ch_it hL (show m < 3 by omega) (lay_lt hR hng4 hm h1) hk tk
    rcases x1 with ⟨a1, -⟩ | ⟨c, a0, a1, -⟩
    · rw [a1] at h2; cases h2
    · rw [a1, ix_nI (by omega)]
      obtain ⟨p', k', w, st, c1, -, -, c4, c5, c6, b1, b2, b3, b4, b5, b6, b7, b8, b9⟩ := hL.2.2.2.2.2.2.1 c a0
      rw [b6]
      cases hb : decide (nI w = nI 100) with
      | true => exact Or.inl ⟨rfl, rfl⟩
      | false => exact Or.inr ⟨i, c, w, by omega, a0, c5, rfl, rfl, b5⟩
theorem look_hi {S : Mem} {ng nm nc t pa rk m k : Nat} (hL : LR S ng nm nc t pa rk) (hR : RI S ng nm nc t pa) (hm : m < nm) (h4 : 4 ≤ k) (h6 : k < 6) (tk : Bool) : rLook S nc m (grp S m) tk k = (-1, -1, -1) := by
  have hng4 := hL.1.2.2.1
  have hnm3 := hL.1.2.2.2.1
  refine lkR_n (fstN_none.mpr fun j hj => ?_)
  have := lay_lt hR hng4 hm hj
  rw [ch_hi hL (by omega) (by omega) h4 h6]; rfl
def hddB (S : Mem) (nc m : Nat) (tk : Bool) (k o : Nat) : Bool := bitI (S 18 15 k) (nI o) && (decide ((rLook S nc m (grp S m) tk k).1 ≠ -1) && (decide ((rLook S nc m (grp S m) tk o).1 ≠ -1) && (decide ((rLook S nc m (grp S m) tk o).2.1 < (rLook S nc m (grp S m) tk k).2.1) || (decide ((rLook S nc m (grp S m) tk k).2.1 = (rLook S nc m (grp S m) tk o).2.1) && decide (S 18 12 (ix (rLook S nc m (grp S m) tk k).2.2) < S 18 12 (ix (rLook S nc m (grp S m) tk o).2.2))))))
theorem hid_4 {S : Mem} {ng nm nc t pa rk m k : Nat} (hL : LR S ng nm nc t pa rk) (hR : RI S ng nm nc t pa) (hm : m < nm) (tk : Bool) : rHid S nc m (grp S m) tk k = anyB (hddB S nc m tk k) 4 := by
  have hz : ∀ o, 4 ≤ o → o < 6 → hddB S nc m tk k o = false := fun o h4 h6 => by
    unfold hddB
    rw [look_hi hL hR hm h4 h6]
    rw [decide_eq_false (p := ((-1, -1, -1) : Int32 × Int32 × Int32).1 ≠ -1) (fun z => z rfl), Bool.false_and, Bool.and_false, Bool.and_false]
  have e6 : ∀ f : Nat → Bool, anyB f 6 = (anyB f 4 || f 4 || f 5) := fun f => rfl
  have : rHid S nc m (grp S m) tk k = anyB (hddB S nc m tk k) 6 := rfl
  rw [this, e6, hz 4 (by decide) (by decide), hz 5 (by decide) (by decide), Bool.or_false, Bool.or_false]
theorem rk_cmp {S : Mem} {ng nm nc t pa rk c d : Nat} (hL : LR S ng nm nc t pa rk) (hc : c < nc) (hd : d < nc) : (S 22 3 (5 * c + 4) < S 22 3 (5 * d + 4)) ↔ (S 18 12 c < S 18 12 d) := by
  have hrk := hL.1.2.2.2.2.2.2.1
  have hC := hL.2.2.2.2.2.2.1
  obtain ⟨p', k', w, st, a1, -, -, a4, a5, a6, b1, b2, b3, b4, b5, b6, b7, b8, b9⟩ := hC c hc
  obtain ⟨p2, k2, w2, st2, d1, -, -, d4, d5, d6, e1, e2, e3, e4, e5, e6, e7, e8, e9⟩ := hC d hd
  have zm : (-1 : Int32).toInt = -1 := rfl
  rcases b9 with ⟨c1, c2, -⟩ | ⟨r, c0, c1, c2⟩ <;> rcases e9 with ⟨f1, f2, -⟩ | ⟨r2, f0, f1, f2⟩ <;> rw [c1, c2, f1, f2]
  · exact ⟨fun z => (Int32.lt_irrefl z).elim, fun z => (Int32.lt_irrefl z).elim⟩
  · rw [i32_lt, i32_lt, toInt_nI (by omega), toInt_nI (by omega), toInt_nI (by omega), zm]; omega
  · rw [i32_lt, i32_lt, toInt_nI (by omega), toInt_nI (by omega), toInt_nI (by omega), zm]; omega
  · rw [i32_lt, i32_lt, toInt_nI (by omega), toInt_nI (by omega), toInt_nI (by omega), toInt_nI (by omega)]; omega
