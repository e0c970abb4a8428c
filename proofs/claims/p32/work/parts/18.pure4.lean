/-! the reference's calls, as functions (the memory comes with thrown = 0 where the call begins so) -/
def ix (x : Int32) : Nat := x.toNatClampNeg
theorem ix_nI {j : Nat} (h : j < 2 ^ 31) : ix (nI j) = j := nI_clamp h
def fl (S : Mem) (k : Nat) : Int32 × Mem := (nI 0, uM S 17 0 0 (nI k))
def rSetDuty (S : Mem) (a b : Int32) : Int32 × Mem := bif inR a (nI 0) (nI 3) then (bif inR b (nI 0) (nI 255) then (S 18 0 (ix a), uM S 18 0 (ix a) b) else fl S 1) else fl S 1
def rAddGroup (S : Mem) (x : Int32) (ng : Nat) : Int32 × Mem := bif rgB x ng then (bif decide (ng = 10) then fl S 2 else (nI ng, uM (uM S 18 2 ng x) 17 0 4 (nI (ng + 1)))) else fl S 1
def rAddMachine (S : Mem) (x : Int32) (ng nm : Nat) : Int32 × Mem := bif rgB x ng then (bif decide (nm = 12) then fl S 2 else (nI nm, uM (uM S 18 3 nm x) 17 0 6 (nI (nm + 1)))) else fl S 1
def rWork (S : Mem) (x d : Int32) (nm : Nat) : Int32 × Mem := bif rgB x nm then (bif inR d (nI 1) (nI 30) then (bif decide (S 17 0 1 < S 18 4 (ix x)) then fl S 3 else bif mHalt S (ix x) then fl S 3 else (S 17 0 1 + d, uM S 18 4 (ix x) (S 17 0 1 + d))) else fl S 2) else fl S 1
def rSetPace (S : Mem) (x : Int32) : Int32 × Mem := bif inR x (nI 0) (nI 12) then (S 17 0 7, uM S 17 0 7 x) else fl S 1
def rIsBusy (S : Mem) (x : Int32) (nm : Nat) : Int32 × Mem := bif rgB x nm then (bI (decide (S 17 0 1 < S 18 4 (ix x))), uM S 17 0 0 (nI 0)) else (nI 0, uM S 17 0 0 (nI 1))
def rIsStopped (S : Mem) (x : Int32) (nm : Nat) : Int32 × Mem := bif rgB x nm then (bI (mHalt S (ix x)), uM S 17 0 0 (nI 0)) else (nI 0, uM S 17 0 0 (nI 1))
def plB (x : Int32) (ng nm : Nat) : Bool := rgB x ng || decide (100 ≤ x.toInt ∧ x.toInt < 100 + nm)
def rPropose (S : Mem) (p x k w : Int32) (ng nm nc : Nat) : Int32 × Mem :=
  bif rgB p 8 then (bif plB x ng nm then (bif rgB k 6 then (bif inR w (nI 0) (nI 101) then (bif decide (0 < S 18 1 (ix p)) then fl S 3 else bif decide (nc = 40) then fl S 3 else
    (nI nc, uM (uM (uM (uM (uM (uM (uM S 18 6 nc p) 18 7 nc x) 18 8 nc k) 18 9 nc (S 17 0 1)) 18 10 nc w) 18 12 nc (-1)) 17 0 11 (nI (nc + 1)))) else fl S 2) else fl S 1) else fl S 1) else fl S 1
def bitI (x y : Int32) : Bool := decide ((x >>> (y &&& 31)) &&& nI 1 = nI 1)
def rAppr (S : Mem) (c : Nat) : Int32 × Mem :=
  bif decide (S 18 11 c = nI 1) then (S 18 11 c, S) else bif decide (mGood S c ≤ 1) then (S 18 11 c, S) else
    bif decide (S 18 12 c = -1) then (nI 1, uM (uM (uM S 18 11 c (nI 1)) 17 0 12 (S 17 0 12 + nI 1)) 18 12 c (S 17 0 12 + nI 1 - nI 1))
    else (nI 1, uM (uM (uM S 18 11 c (nI 1)) 17 0 12 (S 17 0 12 + nI 0)) 18 12 c (S 18 12 c))
def rApprove (S : Mem) (p c : Int32) (nc t : Nat) : Int32 × Mem :=
  bif rgB p 8 then (bif rgB c nc then (bif decide (S 18 1 (ix p) ≠ 0) then fl S 2 else bif bitI (S 18 0 (t / 7 % 4)) p then (bif decide (S 18 6 (ix c) = p) then fl S 2 else bif decide (S 18 13 (8 * ix c + ix p) = nI 1) then fl S 2 else bif decide (S 18 11 (ix c) = nI 3) then fl S 2 else
    rAppr (uM (uM S 18 13 (8 * ix c + ix p) (nI 1)) 18 14 (8 * ix c + ix p) (nI t)) (ix c)) else fl S 2) else fl S 1) else fl S 1
def rWithdraw (S : Mem) (c : Int32) (nc : Nat) : Mem := bif rgB c nc then (bif decide (S 18 11 (ix c) = 0) then uM (uM S 17 0 0 (nI 0)) 18 11 (ix c) (nI 3) else uM S 17 0 0 (nI 2)) else uM S 17 0 0 (nI 1)
def rComeBack (S : Mem) (p : Int32) : Mem := bif rgB p 8 then (bif decide (S 18 1 (ix p) = nI 1) then uM (uM S 17 0 0 (nI 0)) 18 1 (ix p) (nI 0) else uM S 17 0 0 (nI 2)) else uM S 17 0 0 (nI 1)
def rExcl (S : Mem) (a b : Int32) (is : Bool) : Int32 × Mem :=
  (bI (bitI (S 18 15 (ix a)) b), bif (bitI (S 18 15 (ix a)) b == is) then S else uM (uM S 18 15 (ix a) (S 18 15 (ix a) ^^^ (nI 1 <<< (b &&& 31)))) 18 15 (ix b) ((uM S 18 15 (ix a) (S 18 15 (ix a) ^^^ (nI 1 <<< (b &&& 31)))) 18 15 (ix b) ^^^ (nI 1 <<< (a &&& 31))))
def rExclude (S : Mem) (a b : Int32) (is : Bool) : Int32 × Mem := bif rgB a 6 then (bif rgB b 6 then (bif decide (a = b) then (nI 0, uM S 17 0 0 (nI 2)) else rExcl (uM S 17 0 0 (nI 0)) a b is) else (nI 0, uM S 17 0 0 (nI 1))) else (nI 0, uM S 17 0 0 (nI 1))
def rAt (S : Mem) (k : Nat) (c : Int32) (nc : Nat) : Int32 × Mem := bif rgB c nc then (S 18 k (ix c), S) else fl S 1
def rApprovals (S : Mem) (c : Int32) (nc : Nat) : Int32 × Mem := bif rgB c nc then (nI (mGood S (ix c)), S) else fl S 1
def wh (S : Mem) (o : Option Nat) : Int32 := match o with
  | none => -1
  | some c => bif decide (S 18 10 c = nI 101) then -1 else S 18 10 c
def rTold (S : Mem) (x k : Int32) (ng nm nc : Nat) : Int32 × Mem := bif plB x ng nm then (bif rgB k 6 then (wh S (mTopI S nc x k), S) else fl S 1) else fl S 1
def grp (S : Mem) (m : Nat) : Nat := ix (S 18 3 m)
def rTaken (S : Mem) (m y k : Int32) (nm : Nat) : Int32 × Mem := bif rgB m nm then (bif rgB y (lay (S 18 2) (grp S (ix m))).length then (bif rgB k 6 then (S 18 5 (6 * (11 * ix m + (lay (S 18 2) (grp S (ix m))).getD (ix y) 0) + ix k), S) else fl S 1) else fl S 1) else fl S 1
def rBehind (S : Mem) (m : Int32) (nm nc : Nat) : Int32 × Mem := bif rgB m nm then (nI (cntB (fun i => mLag S nc (ix m) ((lay (S 18 2) (grp S (ix m))).getD i 0)) (lay (S 18 2) (grp S (ix m))).length), S) else fl S 1
def hasC (S : Mem) (m c : Nat) : Bool := anyB (fun i => decide (S 18 5 (66 * m + i) = nI c)) 66
def rSpread (S : Mem) (c : Int32) (nm nc : Nat) : Int32 × Mem := bif rgB c nc then (nI (cntB (fun m => hasC S m (ix c)) nm), S) else fl S 1
def mvV (S : Mem) (m g n : Nat) : Nat → Int32 := fun q => if 66 * m ≤ q ∧ q < 66 * m + 6 * n ∧ (q - 66 * m) / 6 ∉ pth (S 18 2) g then -1 else S 18 5 q
def rMove (S : Mem) (m g : Int32) (ng nm : Nat) : Int32 × Mem := bif rgB m nm then (bif rgB g ng then (bif decide (S 17 0 1 < S 18 4 (ix m)) then fl S 2 else (S 18 3 (ix m), uS (uM S 18 3 (ix m) g) 18 5 (mvV S (ix m) (ix g) ng))) else fl S 1) else fl S 1
/-- what the reference's memory is always like: counts, paths, groups, what is taken, and that nothing is taken outside a machine's layers -/
def RI (S : Mem) (ng nm nc t pa : Nat) : Prop :=
  (S 17 0 4 = nI ng ∧ 1 ≤ ng ∧ ng ≤ 10) ∧ (S 17 0 6 = nI nm ∧ nm ≤ 12) ∧ (S 17 0 11 = nI nc ∧ nc ≤ 40) ∧ (S 17 0 1 = nI t ∧ t < 2 ^ 20) ∧ (S 17 0 7 = nI pa ∧ pa ≤ 12) ∧ PAR (S 18 2) ng ∧ (∀ m, m < nm → ∃ g, g < ng ∧ S 18 3 m = nI g) ∧ TK S ∧
  (∀ m, m < nm → ∀ s, s ≤ 9 → s ∉ pth (S 18 2) (grp S m) → ∀ k, k < 6 → S 18 5 (6 * (11 * m + s) + k) = -1)
/-! looking at a machine -/
def LK (S : Mem) (v f b : Nat → Int32) : Mem := uS (uS (uS S 18 16 v) 18 17 f) 18 18 b
theorem LK_v {S : Mem} {v f b : Nat → Int32} {j : Nat} {x : Int32} : uM (LK S v f b) 18 16 j x = LK S (upd v j x) f b := by
  funext k i
  unfold uM LK uS
  by_cases h1 : k = 18 ∧ i = 16
  · obtain ⟨rfl, rfl⟩ := h1
    simp
  · rw [if_neg h1]
    by_cases h2 : k = 18 ∧ i = 18
    · rw [if_pos h2, if_pos h2]
    · rw [if_neg h2, if_neg h2, if_neg h1, if_neg h1]
theorem LK_f {S : Mem} {v f b : Nat → Int32} {j : Nat} {x : Int32} : uM (LK S v f b) 18 17 j x = LK S v (upd f j x) b := by
  funext k i
  unfold uM LK uS
  by_cases h1 : k = 18 ∧ i = 17
  · obtain ⟨rfl, rfl⟩ := h1
    simp
  · rw [if_neg h1]
    by_cases h2 : k = 18 ∧ i = 18
    · rw [if_pos h2, if_pos h2]
    · rw [if_neg h2, if_neg h2, if_neg h1, if_neg h1]
theorem LK_b {S : Mem} {v f b : Nat → Int32} {j : Nat} {x : Int32} : uM (LK S v f b) 18 18 j x = LK S v f (upd b j x) := by
  unfold LK
  exact uM_uS
theorem LK_self {S : Mem} : LK S (S 18 16) (S 18 17) (S 18 18) = S := by
  unfold LK
  rw [uS_self]
  have h1 : S 18 17 = uS S 18 17 (S 18 17) 18 17 := by rw [uS_s]
  rw [uS_self, uS_self]
/-- which change of a layer counts: what is taken, or what is due -/
def chI (S : Mem) (nc m : Nat) (tk : Bool) (s k : Nat) : Int32 := bif tk then S 18 5 (6 * (11 * m + s) + k) else oI (mTop S nc m s k)
def stopB (S : Mem) (c : Int32) : Bool := decide (c ≠ -1) && decide (S 18 10 (ix c) ≠ nI 101)
def lkI (S : Mem) (nc m g : Nat) (tk : Bool) (k n : Nat) : Option Nat := fstN (fun i => stopB S (chI S nc m tk ((lay (S 18 2) g).getD i 0) k)) n
/-- value, layer and change of a key -/
def lkR (S : Mem) (nc m g : Nat) (tk : Bool) (k n : Nat) : Int32 × Int32 × Int32 := match lkI S nc m g tk k n with
  | none => (-1, -1, -1)
  | some i => bif decide (S 18 10 (ix (chI S nc m tk ((lay (S 18 2) g).getD i 0) k)) = nI 100) then (-1, -1, -1) else (S 18 10 (ix (chI S nc m tk ((lay (S 18 2) g).getD i 0) k)), nI i, chI S nc m tk ((lay (S 18 2) g).getD i 0) k)
def LKOK (S : Mem) (nc m g : Nat) (tk : Bool) (n K : Nat) (v f b : Nat → Int32) : Prop := ∀ k, k < K → (v k, f k, b k) = lkR S nc m g tk k n
def hidB (S : Mem) (k o : Nat) : Bool := bitI (S 18 15 k) (nI o) && (decide (S 18 16 k ≠ -1) && (decide (S 18 16 o ≠ -1) && (decide (S 18 17 o < S 18 17 k) || (decide (S 18 17 k = S 18 17 o) && decide (S 18 12 (ix (S 18 18 k)) < S 18 12 (ix (S 18 18 o)))))))
def mHid (S : Mem) (k : Nat) : Bool := anyB (hidB S k) 6
def BYOK (S : Mem) : Prop := ∀ j, j < 6 → S 18 16 j ≠ -1 → ∃ c, c < 40 ∧ S 18 18 j = nI c
