/-! the class: words for its small methods -/
theorem rg1 {x : Int32} {n : Nat} (h : x < 0) : rgB x n = false := by
  unfold rgB
  rw [i32_lt] at h
  have e : (0 : Int32).toInt = 0 := rfl
  rw [e] at h
  exact decide_eq_false (by omega)
theorem rg2 {x : Int32} {n : Nat} (hn : n < 2 ^ 31) (h : nI n ≤ x) : rgB x n = false := by
  unfold rgB
  rw [i32_le, toInt_nI hn] at h
  exact decide_eq_false (by omega)
theorem rg3 {x : Int32} {n : Nat} (hn : n < 2 ^ 31) (h1 : ¬ x < 0) (h2 : ¬ nI n ≤ x) : rgB x n = true := by
  unfold rgB
  rw [i32_lt] at h1
  have e : (0 : Int32).toInt = 0 := rfl
  rw [e] at h1
  rw [i32_le, toInt_nI hn] at h2
  exact decide_eq_true (by omega)
def cntI (x y : Int32) : Bool := decide ((x >>> (y &&& 31)) &&& nI 1 ≠ 0)
def wthI (x y : Int32) (b : Bool) : Int32 := bif b then x ||| (nI 1 <<< (y &&& 31)) else x &&& ((nI 1 <<< (y &&& 31)) ^^^ (-1))
def slF (x : Int32) (ng nm : Nat) : Int32 := bif rgB x ng then x else bif decide (100 ≤ x.toInt ∧ x.toInt < 100 + nm) then nI 10 + x - nI 100 else -1
def hvB (S : Mem) (p : Nat) (x : Int32) : Bool := decide (S 5 p 1 ≠ 0) && decide (S 5 p 2 - x < nI 30)
def cNh (S : Mem) (nc : Nat) (x : Int32) : Bool := rgB x nc && decide (S 9 (ix x) 4 ≠ nI 1)
def cWh (S : Mem) (nc : Nat) (x : Int32) : Int32 := bif rgB x nc then S 9 (ix x) 2 else -1
/-- the layers of a machine: their slots -/
def MK (S : Mem) (i : Nat) (L : List Nat) : Prop := S 6 i 3 = nI L.length ∧ L.length ≤ 11 ∧ ∀ j, j < L.length → S 7 i j = nI (L.getD j 0) ∧ L.getD j 0 < 22
def cNhL (S : Mem) (nc i s : Nat) : Bool := anyB (fun k => cNh S nc (S 8 i (s * 6 + k))) 6
def cNear (S : Mem) (nc i : Nat) (L : List Nat) : Option Nat := fstN (fun j => cNhL S nc i (L.getD j 0)) L.length
def cBeh (S : Mem) (i s : Nat) : Bool := anyB (fun k => decide (S 8 i (s * 6 + k) ≠ S 13 0 (s * 6 + k))) 6
def cTakeAt (S : Mem) (i s : Nat) : Mem := uS S 8 i (ovl (S 8 i) (s * 6) 6 (fun k => S 13 0 (s * 6 + k)))
def cFar (S : Mem) (i : Nat) (L : List Nat) : Nat := farN (fun j => cBeh S i (L.getD j 0)) L.length
def cTake (S : Mem) (i : Nat) (L : List Nat) : Mem := match cFar S i L with
  | 0 => S
  | j + 1 => cTakeAt S i (L.getD j 0)
def cgbV (S : Mem) (nc i s n : Nat) : Nat → Int32 := fun q => if s * 6 ≤ q ∧ q < s * 6 + n ∧ cNh S nc (S 8 i q) = true then S 13 0 q else S 8 i q
theorem cgbV_0 {S : Mem} {nc i s : Nat} : cgbV S nc i s 0 = S 8 i := by
  funext q
  unfold cgbV
  rw [if_neg (by omega)]
theorem cgbV_t {S : Mem} {nc i s n : Nat} (h : cNh S nc (S 8 i (s * 6 + n)) = true) : upd (cgbV S nc i s n) (s * 6 + n) (S 13 0 (s * 6 + n)) = cgbV S nc i s (n + 1) := by
  funext q
  unfold cgbV upd
  dsimp only
  by_cases hq : q = s * 6 + n
  · subst hq
    rw [if_pos rfl, if_pos ⟨by omega, by omega, h⟩]
  · rw [if_neg hq]
    by_cases h2 : s * 6 ≤ q ∧ q < s * 6 + n ∧ cNh S nc (S 8 i q) = true
    · rw [if_pos h2, if_pos ⟨h2.1, by omega, h2.2.2⟩]
    · rw [if_neg h2, if_neg (fun z => h2 ⟨z.1, by omega, z.2.2⟩)]
theorem cgbV_f {S : Mem} {nc i s n : Nat} (h : cNh S nc (S 8 i (s * 6 + n)) = false) : cgbV S nc i s n = cgbV S nc i s (n + 1) := by
  funext q
  unfold cgbV
  by_cases h2 : s * 6 ≤ q ∧ q < s * 6 + n ∧ cNh S nc (S 8 i q) = true
  · rw [if_pos h2, if_pos ⟨h2.1, by omega, h2.2.2⟩]
  · rw [if_neg h2, if_neg (fun z => ?_)]
    rcases Nat.lt_or_ge q (s * 6 + n) with y | y
    · exact h2 ⟨z.1, y, z.2.2⟩
    · have e : q = s * 6 + n := by omega
      rw [e, h] at z
      cases z.2.2
theorem cgbV_at {S : Mem} {nc i s n : Nat} : cgbV S nc i s n (s * 6 + n) = S 8 i (s * 6 + n) := by
  unfold cgbV
  rw [if_neg (by omega)]
def cBackAt (S : Mem) (nc i s : Nat) : Mem := uS S 8 i (cgbV S nc i s 6)
theorem anyB_f {f : Nat → Bool} {n : Nat} (h : ∀ k, k < n → f k = false) : anyB f n = false := by
  cases hb : anyB f n with
  | false => rfl
  | true => obtain ⟨k, h1, h2⟩ := anyB_t.mp hb; rw [h k h1] at h2; cases h2
theorem anyB_s {f : Nat → Bool} {n k : Nat} (h : f k = true) (hk : k < n) : anyB f n = true := anyB_t.mpr ⟨k, hk, h⟩
theorem farN_top {f : Nat → Bool} {n j : Nat} (hj : j < n) (h : f j = true) (h2 : ∀ k, j < k → k < n → f k = false) : farN f n = j + 1 := by
  induction n with
  | zero => omega
  | succ n ih =>
    unfold farN
    rcases Nat.lt_or_ge j n with q | q
    · rw [h2 n q (Nat.lt_succ_self n)]
      exact ih q (fun k h3 h4 => h2 k h3 (by omega))
    · rw [show n = j by omega, h]; rfl
def bcF (x : Int32) : Int32 :=
  let u := fun (x y : Int32) => (x.toUInt32 >>> (y.toUInt32 &&& Int32.toUInt32 31)).toInt32
  let a := x - (u x (nI 1) &&& 1431655765)
  let b := (a &&& 858993459) + (u a (nI 2) &&& 858993459)
  let c := (b + u b (nI 4)) &&& 252645135
  let d := c + u c (nI 8)
  let e := d + u d (nI 16)
  e &&& nI 63
theorem bcF_ok : ∀ v, v < 256 → bcF (nI v) = nI (cntB (fun p => Nat.testBit v p) 8) := by decide +kernel
/-- a rank, looked at -/
def rkI (rk : Nat → Int32) (x : Int32) : Int32 := bif rgB x 40 then rk (ix x) else -1
theorem rkI_n {rk : Nat → Int32} {c : Nat} (h : c < 40) : rkI rk (nI c) = rk c := by
  unfold rkI
  rw [rgB_nI (by omega), decide_eq_true h, ix_nI (by omega)]; rfl
theorem rkI_m {rk : Nat → Int32} : rkI rk (-1) = -1 := rfl
def rkV (S : Mem) (h : Nat) (x : Int32) : Int32 := rkI (S 14 h) x
theorem rkV_n {S : Mem} {h c : Nat} (hc : c < 40) : rkV S h (nI c) = S 14 h c := rkI_n hc
