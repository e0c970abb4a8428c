/-! the public methods: how they answer -/
def PRm (ad : Nat → Nat → Nat) (ca : Nat → ClassId) (code : Nat) (v : Int32) (T : Mem) : Int32 → Rl → Prop := fun r E' => code = 0 ∧ r = v ∧ E' = SH ad ca T
def PMm (ad : Nat → Nat → Nat) (ca : Nat → ClassId) (code : Nat) (T : Mem) : Rl → Prop := fun E' => code = 0 ∧ E' = SH ad ca T
def PXm (L : List String) (code : Nat) (X : String) : Prop := 0 < code ∧ L[code - 1]? = some X
theorem px1 {X a : String} {L : List String} {code : Nat} (h : X = a) (e : code = 1) : PXm (a :: L) code X := by subst e; subst h; exact ⟨by decide, rfl⟩
theorem px2 {X a b : String} {L : List String} {code : Nat} (h : X = b) (e : code = 2) : PXm (a :: b :: L) code X := by subst e; subst h; exact ⟨by decide, rfl⟩
theorem px3 {X a b c : String} {L : List String} {code : Nat} (h : X = c) (e : code = 3) : PXm (a :: b :: c :: L) code X := by subst e; subst h; exact ⟨by decide, rfl⟩
theorem KI_V {S T : Mem} {ng nm nc t pa : Nat} (h : KI S ng nm nc t pa) (h0 : ∀ j, j ≠ 10 → j ≠ 11 → T 0 0 j = S 0 0 j) (h1 : T 1 1 = S 1 1) (h6 : ∀ i j, j ≠ 2 → T 6 i j = S 6 i j) (h7 : ∀ i, T 7 i = S 7 i) (h9 : ∀ i, T 9 i 1 = S 9 i 1) : KI T ng nm nc t pa := by
  obtain ⟨a1, a2, a3, a4, a5, a6, a7, a8, a9⟩ := h
  refine ⟨by rw [h0 5 (by decide) (by decide)]; exact a1, by rw [h0 7 (by decide) (by decide)]; exact a2, by rw [h0 9 (by decide) (by decide)]; exact a3, by rw [h0 0 (by decide) (by decide)]; exact a4, by rw [h0 1 (by decide) (by decide)]; exact a5, by rw [h1]; exact a6, fun i hi => ?_, fun c hc => by rw [h9 c]; exact a8 c hc, fun i hi => by rw [h6 i 0 (by decide)]; exact a9 i hi⟩
  have e : clay T i = clay S i := by unfold clay; rw [h6 i 3 (by decide), h7 i]
  rw [e]
  have := a7 i hi
  unfold MK at this ⊢
  rw [h6 i 3 (by decide), h7 i]
  exact this
theorem KI_day {S : Mem} {ng nm nc t pa n : Nat} (h : KI S ng nm nc t pa) (hn : t + n < 2 ^ 20) : KI (uM S 0 0 0 (S 0 0 0 + nI n)) ng nm nc (t + n) pa := by
  obtain ⟨a1, a2, a3, a4, a5, a6, a7, a8, a9⟩ := h
  refine ⟨a1, a2, a3, ⟨by rw [uM_s, a4.1, nI_add], hn⟩, a5, a6, a7, a8, a9⟩
theorem cSts_le {nc pa : Nat} {q : Mem × Nat × Nat} : ∀ n, (cSts nc pa q n).2.2 ≤ q.2.2 + n
  | 0 => Nat.le_refl _
  | n + 1 => by
    have ih := cSts_le (nc := nc) (pa := pa) (q := q) n
    unfold cSts cSt
    cases cNear (cSts nc pa q n).1 nc n (clay (cSts nc pa q n).1 n) with
    | some a => show (cSts nc pa q n).2.2 + 1 ≤ _; omega
    | none =>
      dsimp only
      cases decide ((cSts nc pa q n).1 0 0 0 < (cSts nc pa q n).1 6 n 2) with
      | true => show (cSts nc pa q n).2.2 ≤ _; omega
      | false =>
        cases decide (pa ≤ (cSts nc pa q n).2.1) with
        | true => show (cSts nc pa q n).2.2 ≤ _; omega
        | false =>
          cases decide (cFar (cSts nc pa q n).1 n (clay (cSts nc pa q n).1 n) ≠ 0) with
          | true => show (cSts nc pa q n).2.2 + 1 ≤ _; omega
          | false => show (cSts nc pa q n).2.2 ≤ _; omega
theorem cDay_le {S : Mem} {nc nm pa : Nat} : (cDay S nc nm pa).2 ≤ nm := by have := cSts_le (nc := nc) (pa := pa) (q := (S, 0, 0)) nm; unfold cDay; dsimp only at this ⊢; omega
theorem slF_in {x : Int32} {ng nm : Nat} (hng : ng ≤ 10) (hnm : nm ≤ 12) (h : slF x ng nm ≠ -1) : ∃ s, s < 22 ∧ slF x ng nm = nI s := by
  unfold slF at h ⊢
  cases h1 : rgB x ng with
  | true => obtain ⟨j, hj, e⟩ := rgB_t h1; exact ⟨j, by omega, by rw [cond_true, e]⟩
  | false =>
    rw [h1] at h
    cases h2 : decide (100 ≤ x.toInt ∧ x.toInt < 100 + nm) with
    | false => rw [h2] at h; exact absurd rfl h
    | true =>
      have h3 := of_decide_eq_true h2
      have hr := x.toInt_lt
      obtain ⟨j, hj, e⟩ : ∃ j : Nat, j < nm ∧ x = nI (100 + j) := ⟨(x.toInt - 100).toNat, by omega, by rw [i32_eq, toInt_nI (by omega)]; omega⟩
      refine ⟨10 + j, by omega, ?_⟩
      rw [cond_false, cond_true, e, nI_add]
      apply i32_eq.mpr
      rw [toInt_nI (by omega), pk_sub_toInt (by omega) (by omega)]
      omega
/-! codes, answers, memories -/
def sdC (x y : Int32) : Nat := bif rgB x 4 && rgB y 256 then 0 else 1
def leC (S : Mem) (x : Int32) : Nat := bif rgB x 8 then (bif decide (S 5 (ix x) 0 = 0) then 2 else 0) else 1
def leS (S : Mem) (p : Nat) : Mem := uM (uM (uM (uM (uM S 5 p 0 (nI 0)) 0 0 11 (S 0 0 11 + nI 1)) 5 p 1 (nI 1)) 5 p 2 (S 0 0 0)) 5 p 3 (S 0 0 11 + nI 1)
def leV (S : Mem) (p nc : Nat) (b : Bool) : Int32 := bif b then nI (vcN (leS S p) p nc) else nI 0
def leM (S : Mem) (p nc nm : Nat) (b : Bool) : Mem := bif b then cVoidM (leS S p) p nc nm else uM S 5 p 0 (nI 0)
def cbC (S : Mem) (x : Int32) : Nat := bif rgB x 8 then (bif decide (S 5 (ix x) 0 ≠ 0) || decide (S 5 (ix x) 1 ≠ 0) then 2 else 0) else 1
def paC (x : Int32) : Nat := bif decide (1 ≤ x.toInt ∧ x.toInt ≤ 60) then 0 else 1
def agC (x : Int32) (ng : Nat) : Nat := bif rgB x ng then (bif decide (10 ≤ ng) then 2 else 0) else 1
def amC (x : Int32) (ng nm : Nat) : Nat := bif rgB x ng then (bif decide (12 ≤ nm) then 2 else 0) else 1
def mmC (S : Mem) (x y : Int32) (ng nm : Nat) : Nat := bif rgB x nm then (bif rgB y ng then (bif decide (S 0 0 0 < S 6 (ix x) 2) then 2 else 0) else 1) else 1
def woC (S : Mem) (x y : Int32) (nm nc : Nat) : Nat := bif rgB x nm then (bif decide (1 ≤ y.toInt ∧ y.toInt ≤ 30) then (bif decide (S 0 0 0 < S 6 (ix x) 2) || (cNear S nc (ix x) (clay S (ix x))).isSome then 3 else 0) else 2) else 1
def spC (x : Int32) : Nat := bif rgB x 13 then 0 else 1
def rqC (x : Int32) (n : Nat) : Nat := bif rgB x n then 0 else 1
def prC (S : Mem) (x y z w : Int32) (ng nm nc : Nat) : Nat := bif rgB x 8 then (bif decide (slF y ng nm ≠ -1) then (bif rgB z 6 then (bif rgB w 102 then (bif decide (S 5 (ix x) 0 = 0) || decide (40 ≤ nc) then 3 else 0) else 2) else 1) else 1) else 1
def prM (S : Mem) (nc : Nat) (x q w : Int32) : Mem := uM (uM (uM (uM (uM S 9 nc 0 x) 9 nc 1 q) 9 nc 2 w) 9 nc 3 (S 0 0 0)) 0 0 9 (nI (nc + 1))
def apC (S : Mem) (x y : Int32) (nc t : Nat) : Nat := bif rgB x 8 then (bif rgB y nc then (bif decide (S 5 (ix x) 0 ≠ 0) && (cntI (S 1 0 (t / 7 % 4)) x && canB S (ix y) (ix x)) then 0 else 2) else 1) else 1
def apS (S : Mem) (p c : Nat) : Mem := adM (uM S 0 0 11 (S 0 0 11 + nI 1)) c p (S 0 0 0) (S 0 0 11 + nI 1)
def apM (S : Mem) (p c nc : Nat) : Mem := bif decide (apS S p c 9 c 4 ≠ nI 1) && decide (nI 2 ≤ bcF (apS S p c 9 c 5)) then hoM (apS S p c) c nc else apS S p c
def wdC (S : Mem) (x : Int32) (nc : Nat) : Nat := bif rgB x nc then (bif decide (S 9 (ix x) 4 ≠ 0) then 2 else 0) else 1
def exC (x y : Int32) : Nat := bif rgB x 6 then (bif rgB y 6 then (bif decide (ix x = ix y) then 2 else 0) else 1) else 1
def exM (S : Mem) (k o : Nat) (b : Bool) : Mem := uM (uM S 1 2 k (wthI (S 1 2 k) (nI o) b)) 1 2 o (wthI (uM S 1 2 k (wthI (S 1 2 k) (nI o) b) 1 2 o) (nI k) b)
def toC (x y : Int32) (ng nm : Nat) : Nat := bif decide (slF x ng nm ≠ -1) then (bif rgB y 6 then 0 else 1) else 1
def toV (S : Mem) (nc s k : Nat) : Int32 := bif decide (cWh S nc (S 13 0 (s * 6 + k)) = nI 101) then -1 else cWh S nc (S 13 0 (s * 6 + k))
def taC (S : Mem) (x y z : Int32) (nm : Nat) : Nat := bif rgB x nm then (bif rgB y (clay S (ix x)).length then (bif rgB z 6 then 0 else 1) else 1) else 1
def r2C (x y : Int32) (nm : Nat) : Nat := bif rgB x nm then (bif rgB y 6 then 0 else 1) else 1
def ruM (S : Mem) (nc i : Nat) : Mem := match cNear S nc i (clay S i) with | none => ouM S nc 8 i 14 0 (clay S i) | some _ => ogM S
def duM (S : Mem) (nc i : Nat) : Mem := ouM S nc 13 0 14 0 (clay S i)
def daM (S : Mem) (nc i : Nat) : Mem := ouM (anM S nc) nc 13 1 14 1 (clay S i)
def loV (T : Mem) (k : Nat) : Int32 := bif decide (vsh T k = -1) then -1 else T 16 1 k
def bhN (S : Mem) (i : Nat) : Nat := cntB (fun j => cBeh S i ((clay S i).getD j 0)) (clay S i).length
def sdN (S : Mem) (nm c : Nat) : Nat := cntB (fun i => decide (S 8 i (ix (S 9 c 1)) = nI c)) nm
