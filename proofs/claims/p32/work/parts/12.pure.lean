/-! numbers and small functions that both sides are told by -/
theorem toInt_nI {n : Nat} (h : n < 2 ^ 31) : (nI n).toInt = n := nI_toInt h
theorem i32_le {x y : Int32} : x ≤ y ↔ x.toInt ≤ y.toInt := Int32.le_iff_toInt_le
theorem i32_lt {x y : Int32} : x < y ↔ x.toInt < y.toInt := Int32.lt_iff_toInt_lt
theorem i32_eq {x y : Int32} : x = y ↔ x.toInt = y.toInt := Int32.toInt_inj.symm
def rgB (x : Int32) (n : Nat) : Bool := decide (0 ≤ x.toInt ∧ x.toInt < n)
theorem rgB_t {x : Int32} {n : Nat} (h : rgB x n = true) : ∃ j, j < n ∧ x = nI j := by
  have h := of_decide_eq_true h
  have hr := x.toInt_lt
  refine ⟨x.toInt.toNat, by omega, ?_⟩
  rw [i32_eq, toInt_nI (by omega)]
  omega
theorem rgB_nI {j n : Nat} (hj : j < 2 ^ 31) : rgB (nI j) n = decide (j < n) := by
  unfold rgB
  rw [toInt_nI hj]
  simp
def inR (v lo hi : Int32) : Bool := decide (lo ≤ v) && decide (v ≤ hi)
theorem inR_f1 {x lo hi : Int32} (h : x < lo) : inR x lo hi = false := by
  unfold inR
  rw [decide_eq_false (Int32.not_le.mpr h)]; rfl
theorem inR_f2 {x lo hi : Int32} (h : hi < x) : inR x lo hi = false := by
  unfold inR
  rw [decide_eq_false (p := x ≤ hi) (Int32.not_le.mpr h), Bool.and_false]
theorem inR_t {x lo hi : Int32} (h : ¬ x < lo) (h2 : ¬ hi < x) : inR x lo hi = true := by
  unfold inR
  rw [decide_eq_true (Int32.not_lt.mp h), decide_eq_true (Int32.not_lt.mp h2)]; rfl
theorem inR_0 {x : Int32} {n : Nat} (h : n < 2 ^ 30) : inR x (nI 0) (nI n - nI 1) = rgB x n := by
  unfold inR rgB
  rw [Bool.eq_iff_iff]
  simp only [Bool.and_eq_true, decide_eq_true_eq, i32_le, toInt_nI (show 0 < 2 ^ 31 by omega), pk_sub_toInt h (show 1 < 2 ^ 30 by omega)]
  omega
theorem inR_n {x : Int32} (a b : Nat) (ha : a < 2 ^ 31) (hb : b < 2 ^ 31) : inR x (nI a) (nI b) = decide ((a : Int) ≤ x.toInt ∧ x.toInt ≤ b) := by
  unfold inR
  rw [Bool.eq_iff_iff]
  simp only [Bool.and_eq_true, decide_eq_true_eq, i32_le, toInt_nI ha, toInt_nI hb]
theorem inR_rg {x : Int32} (b : Nat) (hb : b < 2 ^ 30) : inR x (nI 0) (nI b) = rgB x (b + 1) := by
  rw [inR_n 0 b (by omega) (by omega)]
  unfold rgB
  congr 1
  apply propext
  constructor
  · intro hh; omega
  · intro hh; omega
def cntB (f : Nat → Bool) : Nat → Nat
  | 0 => 0
  | n + 1 => cntB f n + (if f n then 1 else 0)
theorem cntB_le (f : Nat → Bool) : ∀ n, cntB f n ≤ n
  | 0 => Nat.le_refl 0
  | n + 1 => by have := cntB_le f n; unfold cntB; split <;> omega
theorem cntB_cong {f g : Nat → Bool} : ∀ {n : Nat}, (∀ k, k < n → f k = g k) → cntB f n = cntB g n
  | 0, _ => rfl
  | n + 1, h => by
    unfold cntB
    rw [cntB_cong (fun k hk => h k (Nat.lt_succ_of_lt hk)), h n (Nat.lt_succ_self n)]
def anyB (f : Nat → Bool) : Nat → Bool
  | 0 => false
  | n + 1 => anyB f n || f n
theorem anyB_t {f : Nat → Bool} : ∀ {n : Nat}, anyB f n = true ↔ ∃ k, k < n ∧ f k = true
  | 0 => by simp [anyB]
  | n + 1 => by
    unfold anyB
    rw [Bool.or_eq_true, anyB_t]
    constructor
    · rintro (⟨k, h1, h2⟩ | h)
      · exact ⟨k, Nat.lt_succ_of_lt h1, h2⟩
      · exact ⟨n, Nat.lt_succ_self n, h⟩
    · rintro ⟨k, h1, h2⟩
      rcases Nat.lt_or_ge k n with q | q
      · exact Or.inl ⟨k, q, h2⟩
      · rw [show n = k by omega]; exact Or.inr h2
theorem anyB_cong {f g : Nat → Bool} : ∀ {n : Nat}, (∀ k, k < n → f k = g k) → anyB f n = anyB g n
  | 0, _ => rfl
  | n + 1, h => by
    unfold anyB
    rw [anyB_cong (fun k hk => h k (Nat.lt_succ_of_lt hk)), h n (Nat.lt_succ_self n)]
def oI : Option Nat → Int32
  | none => -1
  | some c => nI c
theorem m1_ne {n : Nat} (h : n < 2 ^ 31) : nI n ≠ -1 := by
  intro z
  have := congrArg Int32.toInt z
  rw [toInt_nI h] at this
  have h2 : (-1 : Int32).toInt = -1 := rfl
  omega
theorem oI_m1 {o : Option Nat} (h : ∀ c, o = some c → c < 2 ^ 31) : oI o = -1 ↔ o = none := by
  cases o with
  | none => simp [oI]
  | some c => simp [oI, m1_ne (h c rfl)]
/-- the best of those that are ok: the greatest by rk, the earliest of equals -/
def bstep (ok : Nat → Bool) (rk : Nat → Int32) (n : Nat) (b : Option Nat) : Option Nat :=
  bif ok n && (match b with | none => true | some c => decide (rk c < rk n)) then some n else b
def bestN (ok : Nat → Bool) (rk : Nat → Int32) : Nat → Option Nat
  | 0 => none
  | n + 1 => bstep ok rk n (bestN ok rk n)
theorem bestN_lt {ok : Nat → Bool} {rk : Nat → Int32} : ∀ {n c : Nat}, bestN ok rk n = some c → c < n ∧ ok c = true
  | 0, c, h => by cases h
  | n + 1, c, h => by
    unfold bestN bstep at h
    cases hb : (ok n && (match bestN ok rk n with | none => true | some c => decide (rk c < rk n))) with
    | true =>
      rw [hb] at h
      cases h
      exact ⟨Nat.lt_succ_self _, (Bool.and_eq_true_iff.mp hb).1⟩
    | false =>
      rw [hb] at h
      have := bestN_lt (n := n) h
      exact ⟨Nat.lt_succ_of_lt this.1, this.2⟩
theorem bestN_cong {ok ok' : Nat → Bool} {rk rk' : Nat → Int32} : ∀ {n : Nat}, (∀ c, c < n → ok c = ok' c) → (∀ c, c < n → rk c = rk' c) → bestN ok rk n = bestN ok' rk' n
  | 0, _, _ => rfl
  | n + 1, h1, h2 => by
    unfold bestN
    rw [bestN_cong (fun c hc => h1 c (Nat.lt_succ_of_lt hc)) (fun c hc => h2 c (Nat.lt_succ_of_lt hc))]
    unfold bstep
    rw [h1 n (Nat.lt_succ_self n), h2 n (Nat.lt_succ_self n)]
    cases hb : bestN ok' rk' n with
    | none => rfl
    | some c => simp only [h2 c (Nat.lt_succ_of_lt (bestN_lt hb).1)]
theorem fit_b (b : Bool) : fits .boolean (.int (bI b)) = true := by cases b <;> rfl
