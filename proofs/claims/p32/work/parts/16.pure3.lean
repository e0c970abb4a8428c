/-! more of the reference's words -/
def farN (f : Nat → Bool) : Nat → Nat
  | 0 => 0
  | n + 1 => bif f n then n + 1 else farN f n
theorem farN_le (f : Nat → Bool) : ∀ n, farN f n ≤ n
  | 0 => Nat.le_refl 0
  | n + 1 => by have := farN_le f n; unfold farN; cases f n <;> simp <;> omega
theorem farN_cong {f g : Nat → Bool} : ∀ {n : Nat}, (∀ k, k < n → f k = g k) → farN f n = farN g n
  | 0, _ => rfl
  | n + 1, h => by
    unfold farN
    rw [farN_cong (fun k hk => h k (Nat.lt_succ_of_lt hk)), h n (Nat.lt_succ_self n)]
def fstN (f : Nat → Bool) : Nat → Option Nat
  | 0 => none
  | n + 1 => match fstN f n with
    | some i => some i
    | none => bif f n then some n else none
theorem fstN_none {f : Nat → Bool} : ∀ {n : Nat}, fstN f n = none ↔ ∀ k, k < n → f k = false
  | 0 => by simp [fstN]
  | n + 1 => by
    unfold fstN
    cases h : fstN f n with
    | some i =>
      simp only [reduceCtorEq, false_iff]
      intro hh
      have := fstN_none.mpr (fun k hk => hh k (Nat.lt_succ_of_lt hk))
      rw [h] at this; cases this
    | none =>
      have h2 := fstN_none.mp h
      cases hf : f n with
      | true => simp only [cond_true, reduceCtorEq, false_iff]; intro hh; have := hh n (Nat.lt_succ_self n); rw [hf] at this; cases this
      | false =>
        simp only [cond_false, true_iff]
        intro k hk
        rcases Nat.lt_or_ge k n with q | q
        · exact h2 k q
        · rw [show k = n by omega]; exact hf
theorem fstN_some {f : Nat → Bool} : ∀ {n i : Nat}, fstN f n = some i ↔ i < n ∧ f i = true ∧ ∀ k, k < i → f k = false
  | 0, i => by simp [fstN]
  | n + 1, i => by
    unfold fstN
    cases h : fstN f n with
    | some j =>
      have h2 := fstN_some.mp h
      constructor
      · intro e; cases e; exact ⟨Nat.lt_succ_of_lt h2.1, h2.2⟩
      · rintro ⟨a, b, c⟩
        show some j = some i
        congr 1
        rcases Nat.lt_trichotomy i j with q | q | q
        · have := h2.2.2 i q; rw [b] at this; cases this
        · exact q.symm
        · have := c j q; rw [h2.2.1] at this; cases this
    | none =>
      have h2 := fstN_none.mp h
      cases hf : f n with
      | true =>
        constructor
        · intro e; cases e; exact ⟨Nat.lt_succ_self _, hf, h2⟩
        · rintro ⟨a, b, c⟩
          rcases Nat.lt_or_ge i n with q | q
          · have := h2 i q; rw [b] at this; cases this
          · show some n = some i
            rw [show i = n by omega]
      | false =>
        constructor
        · intro e; cases e
        · rintro ⟨a, b, c⟩
          rcases Nat.lt_or_ge i n with q | q
          · have := h2 i q; rw [b] at this; cases this
          · rw [show i = n by omega, hf] at b; cases b
theorem fstN_cong {f g : Nat → Bool} : ∀ {n : Nat}, (∀ k, k < n → f k = g k) → fstN f n = fstN g n
  | 0, _ => rfl
  | n + 1, h => by
    unfold fstN
    rw [fstN_cong (fun k hk => h k (Nat.lt_succ_of_lt hk)), h n (Nat.lt_succ_self n)]
theorem fstN_any {f : Nat → Bool} {n : Nat} (h : anyB f n = true) : ∃ i, fstN f n = some i := by
  cases hf : fstN f n with
  | some i => exact ⟨i, rfl⟩
  | none =>
    obtain ⟨k, h1, h2⟩ := anyB_t.mp h
    rw [fstN_none.mp hf k h1] at h2; cases h2
def lI : Nat → Int32
  | 0 => -1
  | n + 1 => nI n
theorem lI_pred (n : Nat) : nI n + Int32.ofInt (-1) = lI n := by
  cases n with
  | zero => rfl
  | succ n =>
    have e : Int32.ofInt (-1) = -1 := by decide
    rw [e]; exact pk_m1 n
theorem lI_sub (n : Nat) : nI n - nI 1 = lI n := by
  have e : nI 1 = 1 := by decide
  rw [e]
  cases n with
  | zero => decide
  | succ n => exact nI_pred n
/-- an overlay: from b on, n places of v -/
def ovl (f : Nat → Int32) (b n : Nat) (v : Nat → Int32) : Nat → Int32 := fun q => if b ≤ q ∧ q < b + n then v (q - b) else f q
theorem ovl_0 {f v : Nat → Int32} {b : Nat} : ovl f b 0 v = f := by
  funext q
  unfold ovl
  rw [if_neg (by omega)]
theorem ovl_s {f v : Nat → Int32} {b n : Nat} : upd (ovl f b n v) (b + n) (v n) = ovl f b (n + 1) v := by
  funext q
  unfold ovl upd
  dsimp only
  by_cases h : q = b + n
  · subst h
    rw [if_pos rfl, if_pos (by omega), show b + n - b = n by omega]
  · rw [if_neg h]
    by_cases h2 : b ≤ q ∧ q < b + n
    · rw [if_pos h2, if_pos (by omega)]
    · rw [if_neg h2, if_neg (by omega)]
theorem ovl_in {f v : Nat → Int32} {b n k : Nat} (h : k < n) : ovl f b n v (b + k) = v k := by
  unfold ovl
  rw [if_pos (by omega), show b + k - b = k by omega]
theorem ovl_out {f v : Nat → Int32} {b n q : Nat} (h : q < b ∨ b + n ≤ q) : ovl f b n v q = f q := by
  unfold ovl
  rw [if_neg (by omega)]
theorem uM_uS {S : Mem} {k i j : Nat} {f : Nat → Int32} {x : Int32} : uM (uS S k i f) k i j x = uS S k i (upd f j x) := by
  funext k' i'
  unfold uM
  by_cases h : k' = k ∧ i' = i
  · obtain ⟨rfl, rfl⟩ := h
    rw [uS_s, uS_s, uS_s]
  · rw [uS_n h, uS_n h, uS_n h]
theorem uS_self {S : Mem} {k i : Nat} : uS S k i (S k i) = S := by
  funext k' i'
  unfold uS
  by_cases h : k' = k ∧ i' = i
  · obtain ⟨rfl, rfl⟩ := h
    simp
  · rw [if_neg h]
def mFar (S : Mem) (nc m g : Nat) : Nat := farN (fun i => mLag S nc m ((lay (S 18 2) g).getD i 0)) (lay (S 18 2) g).length
def mTakeAt (S : Mem) (nc m s : Nat) : Mem := uS S 18 5 (ovl (S 18 5) (6 * (11 * m + s)) 6 (fun k => oI (mTop S nc m s k)))
def mTake (S : Mem) (nc m g : Nat) : Mem := match mFar S nc m g with
  | 0 => S
  | i + 1 => mTakeAt S nc m ((lay (S 18 2) g).getD i 0)
def mNhL (S : Mem) (m s : Nat) : Bool := anyB (fun k => nhB S (S 18 5 (6 * (11 * m + s) + k))) 6
def gbV (S : Mem) (nc m s n : Nat) : Nat → Int32 := fun q => if 6 * (11 * m + s) ≤ q ∧ q < 6 * (11 * m + s) + n ∧ nhB S (S 18 5 q) = true then oI (mTop S nc m s (q - 6 * (11 * m + s))) else S 18 5 q
theorem gbV_0 {S : Mem} {nc m s : Nat} : gbV S nc m s 0 = S 18 5 := by
  funext q
  unfold gbV
  rw [if_neg (by omega)]
theorem gbV_t {S : Mem} {nc m s n : Nat} (h : nhB S (S 18 5 (6 * (11 * m + s) + n)) = true) : upd (gbV S nc m s n) (6 * (11 * m + s) + n) (oI (mTop S nc m s n)) = gbV S nc m s (n + 1) := by
  funext q
  unfold gbV upd
  dsimp only
  by_cases hq : q = 6 * (11 * m + s) + n
  · subst hq
    rw [if_pos rfl, if_pos ⟨by omega, by omega, h⟩]
    congr 2; omega
  · rw [if_neg hq]
    by_cases h2 : 6 * (11 * m + s) ≤ q ∧ q < 6 * (11 * m + s) + n ∧ nhB S (S 18 5 q) = true
    · rw [if_pos h2, if_pos ⟨h2.1, by omega, h2.2.2⟩]
    · rw [if_neg h2, if_neg (fun z => h2 ⟨z.1, by omega, z.2.2⟩)]
theorem gbV_f {S : Mem} {nc m s n : Nat} (h : nhB S (S 18 5 (6 * (11 * m + s) + n)) = false) : gbV S nc m s n = gbV S nc m s (n + 1) := by
  funext q
  unfold gbV
  by_cases h2 : 6 * (11 * m + s) ≤ q ∧ q < 6 * (11 * m + s) + n ∧ nhB S (S 18 5 q) = true
  · rw [if_pos h2, if_pos ⟨h2.1, by omega, h2.2.2⟩]
  · rw [if_neg h2, if_neg (fun z => ?_)]
    rcases Nat.lt_or_ge q (6 * (11 * m + s) + n) with y | y
    · exact h2 ⟨z.1, y, z.2.2⟩
    · have e : q = 6 * (11 * m + s) + n := by omega
      rw [e, h] at z
      cases z.2.2
theorem gbV_at {S : Mem} {nc m s n : Nat} : gbV S nc m s n (6 * (11 * m + s) + n) = S 18 5 (6 * (11 * m + s) + n) := by
  unfold gbV
  rw [if_neg (by omega)]
def mBackAt (S : Mem) (nc m s : Nat) : Mem := uS S 18 5 (gbV S nc m s 6)
theorem mBack_no {S : Mem} {nc m s : Nat} (h : mNhL S m s = false) : mBackAt S nc m s = S := by
  have : gbV S nc m s 6 = S 18 5 := by
    funext q
    unfold gbV
    refine if_neg (fun z => ?_)
    have h2 : mNhL S m s = true := anyB_t.mpr ⟨q - 6 * (11 * m + s), by omega, by rw [show 6 * (11 * m + s) + (q - 6 * (11 * m + s)) = q by omega]; exact z.2.2⟩
    rw [h] at h2; cases h2
  unfold mBackAt
  rw [this, uS_self]
