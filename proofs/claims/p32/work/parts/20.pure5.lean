theorem fstN_stay {f : Nat → Bool} {i a : Nat} (h : fstN f i = some a) : ∀ {n : Nat}, i ≤ n → fstN f n = some a := by
  intro n hn
  obtain ⟨h1, h2, h3⟩ := fstN_some.mp h
  exact fstN_some.mpr ⟨by omega, h2, h3⟩
theorem fstN_no {f : Nat → Bool} {i : Nat} (h : fstN f i = none) (hf : f i = false) : fstN f (i + 1) = none := by
  unfold fstN
  rw [h, hf]; rfl
theorem fstN_yes {f : Nat → Bool} {i : Nat} (h : fstN f i = none) (hf : f i = true) : fstN f (i + 1) = some i := by
  unfold fstN
  rw [h, hf]; rfl
theorem chI_in {S : Mem} {nc m s k : Nat} {tk : Bool} (hT : TK S) (hn : nc ≤ 40) (hm : m < 12) (hs : s ≤ 10) (hk : k < 6) : chI S nc m tk s k = -1 ∨ ∃ d, d < 40 ∧ chI S nc m tk s k = nI d := by
  unfold chI
  cases tk with
  | true => exact hT _ (by omega)
  | false =>
    cases h : mTop S nc m s k with
    | none => exact Or.inl rfl
    | some d => exact Or.inr ⟨d, Nat.lt_of_lt_of_le (mTop_lt h) hn, rfl⟩
theorem lkR_n {S : Mem} {nc m g k n : Nat} {tk : Bool} (h : lkI S nc m g tk k n = none) : lkR S nc m g tk k n = (-1, -1, -1) := by
  unfold lkR
  rw [h]
theorem lkR_s {S : Mem} {nc m g k n i : Nat} {tk : Bool} (h : lkI S nc m g tk k n = some i) : lkR S nc m g tk k n = bif decide (S 18 10 (ix (chI S nc m tk ((lay (S 18 2) g).getD i 0) k)) = nI 100) then (-1, -1, -1) else (S 18 10 (ix (chI S nc m tk ((lay (S 18 2) g).getD i 0) k)), nI i, chI S nc m tk ((lay (S 18 2) g).getD i 0) k) := by
  unfold lkR
  rw [h]
theorem lkR_by {S : Mem} {nc m g k n ng : Nat} {tk : Bool} (hT : TK S) (hn : nc ≤ 40) (hm : m < 12) (hk : k < 6) (hp : PAR (S 18 2) ng) (hng : ng ≤ 10) (hg : g < ng) (hl : n = (lay (S 18 2) g).length) (h : (lkR S nc m g tk k n).1 ≠ -1) : ∃ c, c < 40 ∧ (lkR S nc m g tk k n).2.2 = nI c := by
  cases hi : lkI S nc m g tk k n with
  | none => rw [lkR_n hi] at h; exact absurd rfl h
  | some i =>
    obtain ⟨h1, h2, -⟩ := fstN_some.mp hi
    rw [lkR_s hi] at h ⊢
    cases hb : decide (S 18 10 (ix (chI S nc m tk ((lay (S 18 2) g).getD i 0) k)) = nI 100) with
    | true => rw [hb] at h; exact absurd rfl h
    | false =>
      simp only [cond_false]
      rcases chI_in (tk := tk) hT hn hm (show (lay (S 18 2) g).getD i 0 ≤ 10 from by
        subst hl
        cases i with
        | zero => exact Nat.le_refl _
        | succ i => exact Nat.le_of_lt (Nat.lt_of_lt_of_le (pth_in hp hng hg (Nat.lt_of_succ_lt_succ h1)) hng)) hk with e | e
      · unfold stopB at h2
        rw [e] at h2; cases h2
      · exact e
/-- hidden, out of what was laid -/
def hidR (ex rk : Nat → Int32) (T : Nat → Int32 × Int32 × Int32) (k : Nat) : Bool := anyB (fun o => bitI (ex k) (nI o) && (decide ((T k).1 ≠ -1) && (decide ((T o).1 ≠ -1) && (decide ((T o).2.1 < (T k).2.1) || (decide ((T k).2.1 = (T o).2.1) && decide (rk (ix (T k).2.2) < rk (ix (T o).2.2))))))) 6
theorem mHid_R {S : Mem} {nc m g n : Nat} {tk : Bool} {v f b : Nat → Int32} (h : LKOK S nc m g tk n 6 v f b) {k : Nat} (hk : k < 6) : mHid (LK S v f b) k = hidR (S 18 15) (S 18 12) (fun k => lkR S nc m g tk k n) k := by
  unfold mHid hidR
  refine anyB_cong (fun o ho => ?_)
  have h1 := h k hk
  have h2 := h o ho
  unfold hidB
  show (bitI (S 18 15 k) (nI o) && (decide (v k ≠ -1) && (decide (v o ≠ -1) && (decide (f o < f k) || (decide (f k = f o) && decide (S 18 12 (ix (b k)) < S 18 12 (ix (b o)))))))) = _
  simp only [← h1, ← h2]
def orN (f : Nat → Bool) : Nat → Int32
  | 0 => nI 0
  | n + 1 => orN f n ||| (bif f n then nI 1 <<< (nI n &&& 31) else nI 0)
theorem orN_cong {f g : Nat → Bool} : ∀ {n : Nat}, (∀ k, k < n → f k = g k) → orN f n = orN g n
  | 0, _ => rfl
  | n + 1, h => by
    unfold orN
    rw [orN_cong (fun k hk => h k (Nat.lt_succ_of_lt hk)), h n (Nat.lt_succ_self n)]
theorem mvV_in {S : Mem} {m g n : Nat} (h : n ∈ pth (S 18 2) g) : mvV S m g (n + 1) = mvV S m g n := by
  funext q
  unfold mvV
  by_cases h2 : 66 * m ≤ q ∧ q < 66 * m + 6 * n ∧ (q - 66 * m) / 6 ∉ pth (S 18 2) g
  · rw [if_pos h2, if_pos ⟨h2.1, by omega, h2.2.2⟩]
  · rw [if_neg h2, if_neg (fun z => ?_)]
    rcases Nat.lt_or_ge q (66 * m + 6 * n) with y | y
    · exact h2 ⟨z.1, y, z.2.2⟩
    · exact z.2.2 (by rw [show (q - 66 * m) / 6 = n by omega]; exact h)
theorem mvV_out {S : Mem} {m g n : Nat} (h : n ∉ pth (S 18 2) g) : ovl (mvV S m g n) (66 * m + 6 * n) 6 (fun _ => -1) = mvV S m g (n + 1) := by
  funext q
  unfold ovl mvV
  by_cases h1 : 66 * m + 6 * n ≤ q ∧ q < 66 * m + 6 * n + 6
  · rw [if_pos h1, if_pos ⟨by omega, by omega, by rw [show (q - 66 * m) / 6 = n by omega]; exact h⟩]
  · rw [if_neg h1]
    by_cases h2 : 66 * m ≤ q ∧ q < 66 * m + 6 * n ∧ (q - 66 * m) / 6 ∉ pth (S 18 2) g
    · rw [if_pos h2, if_pos ⟨h2.1, by omega, h2.2.2⟩]
    · rw [if_neg h2, if_neg (fun z => h2 ⟨z.1, by omega, z.2.2⟩)]
theorem mvV_0 {S : Mem} {m g : Nat} : mvV S m g 0 = S 18 5 := by
  funext q
  unfold mvV
  rw [if_neg (by omega)]
/-- what is run or due, and from where -/
def rLook (S : Mem) (nc m g : Nat) (tk : Bool) (k : Nat) : Int32 × Int32 × Int32 := lkR S nc m g tk k (lay (S 18 2) g).length
def rHid (S : Mem) (nc m g : Nat) (tk : Bool) (k : Nat) : Bool := hidR (S 18 15) (S 18 12) (fun k => rLook S nc m g tk k) k
def askB (x y : Int32) (nm : Nat) : Bool := rgB x nm && rgB y 6
