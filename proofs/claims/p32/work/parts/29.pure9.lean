/-! the class: changes, heads, outcome -/
def hdG (ok : Nat → Bool) (cell : Nat → Nat) (rk : Nat → Int32) (b : Nat → Int32) : Nat → Nat → Int32
  | 0 => b
  | n + 1 => bif ok n then (bif decide (rkI rk (hdG ok cell rk b n (cell n)) < rk n) then upd (hdG ok cell rk b n) (cell n) (nI n) else hdG ok cell rk b n) else hdG ok cell rk b n
theorem hdG_in {ok : Nat → Bool} {cell : Nat → Nat} {rk : Nat → Int32} {b : Nat → Int32} {q : Nat} (hb : b q = -1) : ∀ {n : Nat}, n ≤ 40 → hdG ok cell rk b n q = -1 ∨ ∃ d, d < 40 ∧ d < n ∧ hdG ok cell rk b n q = nI d
  | 0, _ => Or.inl hb
  | n + 1, hn => by
    have ih : hdG ok cell rk b n q = -1 ∨ ∃ d, d < 40 ∧ d < n + 1 ∧ hdG ok cell rk b n q = nI d := by
      rcases hdG_in (ok := ok) (cell := cell) (rk := rk) hb (n := n) (by omega) with z | ⟨d, z1, z2, z3⟩
      · exact Or.inl z
      · exact Or.inr ⟨d, z1, by omega, z3⟩
    unfold hdG
    cases ok n with
    | false => exact ih
    | true =>
      cases decide (rkI rk (hdG ok cell rk b n (cell n)) < rk n) with
      | false => exact ih
      | true =>
        show upd _ _ _ q = -1 ∨ _
        by_cases hq : q = cell n
        · refine Or.inr ⟨n, by omega, by omega, ?_⟩
          show upd _ _ _ q = _
          unfold upd
          rw [if_pos hq]
        · have e : upd (hdG ok cell rk b n) (cell n) (nI n) q = hdG ok cell rk b n q := by unfold upd; rw [if_neg hq]
          rw [e]
          rcases ih with z | ⟨d, z1, z2, z3⟩
          · exact Or.inl z
          · exact Or.inr ⟨d, z1, z2, e.trans z3⟩
theorem hdG_best {ok : Nat → Bool} {cell : Nat → Nat} {rk : Nat → Int32} {b : Nat → Int32} {q : Nat} (hb : b q = -1) : ∀ {n : Nat}, n ≤ 40 → (∀ c, c < n → ok c = true → -1 < rk c) → hdG ok cell rk b n q = oI (bestN (fun c => ok c && decide (cell c = q)) rk n)
  | 0, _, _ => hb
  | n + 1, hn, hr => by
    have ih := hdG_best (ok := ok) (cell := cell) (rk := rk) hb (n := n) (by omega) (fun c hc => hr c (by omega))
    unfold hdG bestN bstep
    dsimp only
    cases ho : ok n with
    | false => exact ih
    | true =>
      by_cases hc : cell n = q
      · subst hc
        rw [ih, decide_eq_true (rfl : cell n = cell n)]
        cases hB : bestN (fun c => ok c && decide (cell c = cell n)) rk n with
        | none =>
          have e1 : rkI rk (oI none) = -1 := rkI_m
          rw [e1, decide_eq_true (hr n (by omega) ho)]
          simp [oI, upd]
        | some d =>
          have hd := (bestN_lt hB).1
          have e2 : rkI rk (oI (some d)) = rk d := rkI_n (by omega)
          rw [e2]
          cases hrk : decide (rk d < rk n) with
          | true => simp [oI, upd, hrk]
          | false => simp [ih, hB, hrk]
      · rw [decide_eq_false hc]
        simp only [cond_true, Bool.and_false, Bool.false_and, cond_false]
        cases decide (rkI rk (hdG ok cell rk b n (cell n)) < rk n) with
        | true => show upd _ _ _ q = _; unfold upd; rw [if_neg (Ne.symm hc)]; exact ih
        | false => exact ih
def mone : Nat → Int32 := fun _ => -1
def hdB (S : Mem) (h : Nat) : Nat → Int32 := ovl (S 13 h) 0 132 mone
theorem hdB_at {S : Mem} {h q : Nat} (hq : q < 132) : hdB S h q = -1 := by
  have := ovl_in (f := S 13 h) (b := 0) (v := mone) hq
  rw [Nat.zero_add] at this
  exact this
def hdOk (S : Mem) (n : Nat) : Bool := decide (S 9 n 4 = nI 1)
def hdC (S : Mem) (n : Nat) : Nat := ix (S 9 n 1)
def hdF (S : Mem) (n : Nat) : Nat → Int32 := hdG (hdOk S) (hdC S) (S 14 0) (hdB S 0) n
def fHM (S : Mem) (nc : Nat) : Mem := uS S 13 0 (hdF S nc)
def raM (S : Mem) (h q c : Nat) : Mem := bif decide (rkV S h (S 13 h q) < S 14 h c) then uM S 13 h q (nI c) else S
theorem raM_uS {S : Mem} {h q c : Nat} {f : Nat → Int32} : raM (uS S 13 h f) h q c = uS S 13 h (bif decide (rkI (S 14 h) (f q) < S 14 h c) then upd f q (nI c) else f) := by
  have e1 : uS S 13 h f 14 h = S 14 h := uS_n (by simp)
  unfold raM rkV
  rw [e1, uS_s, uM_uS]
  cases decide (rkI (S 14 h) (f q) < S 14 h c) <;> rfl
def hoM (S : Mem) (c nc : Nat) : Mem := fHM (bif decide (uM S 9 c 4 (nI 1) 14 0 c = -1) then uM (uM (uM S 9 c 4 (nI 1)) 14 0 c (uM S 9 c 4 (nI 1) 0 0 10)) 0 0 10 (uM S 9 c 4 (nI 1) 0 0 10 + nI 1) else uM S 9 c 4 (nI 1)) nc
def canB (S : Mem) (c p : Nat) : Bool := bif decide (nI p = S 9 c 0) then false else bif decide (S 9 c 4 = nI 3) then false else !cntI (S 9 c 5) (nI p)
def adM (S : Mem) (c p : Nat) (d m : Int32) : Mem := uM (uM (uM S 9 c 5 (wthI (S 9 c 5) (nI p) true)) 10 c p d) 11 c p m
def lG (S : Mem) (c p : Nat) (d : Int32) : Mem := bif cntI (S 9 c 5) (nI p) && decide (d - S 10 c p < nI 30) then uM S 9 c 5 (wthI (S 9 c 5) (nI p) false) else S
def lL2 (S : Mem) (c p : Nat) (d : Int32) (held : Bool) : Mem := bif decide (S 9 c 0 = nI p) && decide (d - S 9 c 3 < nI 30) then uM S 9 c 4 (nI 3) else bif held && decide (bcF (S 9 c 5) < nI 2) then uM S 9 c 4 (nI 2) else S
def lL (S : Mem) (c p : Nat) (d : Int32) : Mem := lL2 (lG S c p d) c p d (decide (S 9 c 4 = nI 1))
def lB (S : Mem) (c p : Nat) (d : Int32) : Bool := decide (S 9 c 4 = nI 1) && decide (lL S c p d 9 c 4 ≠ nI 1)
def vcM (S : Mem) (p : Nat) : Nat → Mem
  | 0 => S
  | n + 1 => lL (vcM S p n) n p (vcM S p n 0 0 0)
def vcN (S : Mem) (p : Nat) : Nat → Nat
  | 0 => 0
  | n + 1 => vcN S p n + (bif lB (vcM S p n) n p (vcM S p n 0 0 0) then 1 else 0)
def cUnt (S : Mem) (nc : Nat) : Nat → Mem
  | 0 => S
  | n + 1 => bif (cNear (cUnt S nc n) nc n (clay (cUnt S nc n) n)).isSome then uM (cUnt S nc n) 6 n 2 (cUnt S nc n 0 0 0) else cUnt S nc n
def cVoidM (S : Mem) (p nc nm : Nat) : Mem := cUnt (fHM (vcM S p nc) nc) nc nm
theorem lL_fr {S : Mem} {c p : Nat} {d : Int32} {k i : Nat} (h : k ≠ 9) : lL S c p d k i = S k i := by
  have u : ∀ (T : Mem) (j : Nat) (x : Int32), uM T 9 c j x k i = T k i := fun T j x => uS_n (fun z => h z.1)
  have e1 : lG S c p d k i = S k i := by
    unfold lG
    cases (cntI (S 9 c 5) (nI p) && decide (d - S 10 c p < nI 30)) with
    | true => exact u _ _ _
    | false => rfl
  have e2 : ∀ (T : Mem) (b : Bool), lL2 T c p d b k i = T k i := by
    intro T b
    unfold lL2
    cases (decide (T 9 c 0 = nI p) && decide (d - T 9 c 3 < nI 30)) with
    | true => exact u _ _ _
    | false =>
      cases (b && decide (bcF (T 9 c 5) < nI 2)) with
      | true => exact u _ _ _
      | false => rfl
  unfold lL
  rw [e2, e1]
theorem vcM_fr {S : Mem} {p k i : Nat} (h : k ≠ 9) : ∀ n, vcM S p n k i = S k i
  | 0 => rfl
  | n + 1 => by rw [vcM, lL_fr h, vcM_fr h n]
theorem lL_9 {S : Mem} {c p : Nat} {d : Int32} {i j : Nat} (h : j ≠ 4) (h5 : j ≠ 5) : lL S c p d 9 i j = S 9 i j := by
  have u4 : ∀ (T : Mem) (x : Int32), uM T 9 c 4 x 9 i j = T 9 i j := fun T x => uM_n (fun z => h z.2.2)
  have u5 : ∀ (T : Mem) (x : Int32), uM T 9 c 5 x 9 i j = T 9 i j := fun T x => uM_n (fun z => h5 z.2.2)
  have e1 : lG S c p d 9 i j = S 9 i j := by
    unfold lG
    cases (cntI (S 9 c 5) (nI p) && decide (d - S 10 c p < nI 30)) with
    | true => exact u5 _ _
    | false => rfl
  have e2 : ∀ (T : Mem) (b : Bool), lL2 T c p d b 9 i j = T 9 i j := by
    intro T b
    unfold lL2
    cases (decide (T 9 c 0 = nI p) && decide (d - T 9 c 3 < nI 30)) with
    | true => exact u4 _ _
    | false =>
      cases (b && decide (bcF (T 9 c 5) < nI 2)) with
      | true => exact u4 _ _
      | false => rfl
  unfold lL
  rw [e2, e1]
theorem vcM_9 {S : Mem} {p i j : Nat} (h : j ≠ 4) (h5 : j ≠ 5) : ∀ n, vcM S p n 9 i j = S 9 i j
  | 0 => rfl
  | n + 1 => by rw [vcM, lL_9 h h5, vcM_9 h h5 n]
theorem cUnt_fr {S : Mem} {nc k i : Nat} (h : k ≠ 6) : ∀ n, cUnt S nc n k i = S k i
  | 0 => rfl
  | n + 1 => by
    unfold cUnt
    cases (cNear (cUnt S nc n) nc n (clay (cUnt S nc n) n)).isSome with
    | true => exact (uS_n (fun z => h z.1)).trans (cUnt_fr h n)
    | false => exact cUnt_fr h n
theorem cUnt_6 {S : Mem} {nc i j : Nat} (h : j ≠ 2) : ∀ n, cUnt S nc n 6 i j = S 6 i j
  | 0 => rfl
  | n + 1 => by
    unfold cUnt
    cases (cNear (cUnt S nc n) nc n (clay (cUnt S nc n) n)).isSome with
    | true => exact (uM_n (fun z => h z.2.2)).trans (cUnt_6 h n)
    | false => exact cUnt_6 h n
theorem KI_U {S T : Mem} {ng nm nc t pa : Nat} (h : KI S ng nm nc t pa) (h0 : T 0 0 = S 0 0) (h1 : T 1 1 = S 1 1) (h6 : ∀ i j, j ≠ 2 → T 6 i j = S 6 i j) (h7 : ∀ i, T 7 i = S 7 i) (h9 : ∀ i, T 9 i 1 = S 9 i 1) : KI T ng nm nc t pa := by
  obtain ⟨a1, a2, a3, a4, a5, a6, a7, a8, a9⟩ := h
  refine ⟨by rw [h0]; exact a1, by rw [h0]; exact a2, by rw [h0]; exact a3, by rw [h0]; exact a4, by rw [h0]; exact a5, by rw [h1]; exact a6, fun i hi => ?_, fun c hc => by rw [h9 c]; exact a8 c hc, fun i hi => by rw [h6 i 0 (by decide)]; exact a9 i hi⟩
  have e : clay T i = clay S i := by unfold clay; rw [h6 i 3 (by decide), h7 i]
  rw [e]
  have := a7 i hi
  unfold MK at this ⊢
  rw [h6 i 3 (by decide), h7 i]
  exact this
/-! what is due, found anew -/
def cgN (S : Mem) (c : Nat) (at_ : Int32) : Nat := cntB (fun p => (decide (S 11 c p ≠ -1) && decide (S 11 c p ≤ at_)) && !(hvB S p (S 10 c p) && decide (S 5 p 3 < at_))) 8
def fhF (S : Mem) (c : Nat) : Nat → Int32
  | 0 => -1
  | n + 1 => bif (decide (S 11 c n ≠ -1) && (decide (fhF S c n = -1) || decide (S 11 c n < fhF S c n))) && decide (2 ≤ cgN S c (S 11 c n)) then S 11 c n else fhF S c n
def haN (S : Mem) (c : Nat) : Nat := cntB (fun p => decide (S 11 c p ≠ -1) && !hvB S p (S 10 c p)) 8
def haB (S : Mem) (c : Nat) : Bool := bif hvB S (ix (S 9 c 0)) (S 9 c 3) then false else decide (2 ≤ haN S c)
def fh (S : Mem) (c : Nat) : Int32 := fhF S c 8
def hdA (S : Mem) (n : Nat) : Nat → Int32 := hdG (haB S) (hdC S) (fh S) (hdB S 1) n
def anM (S : Mem) (n : Nat) : Mem := uS (uS S 14 1 (ovl (S 14 1) 0 n (fh S))) 13 1 (hdA S n)
/-! outcome -/
def ogM (S : Mem) : Mem := uM (uS S 16 0 (ovl (S 16 0) 0 6 mone)) 15 0 3 (nI 0)
def ylB (S : Mem) (k o : Nat) : Bool := bif decide (S 16 0 k = -1) then false else bif decide (S 16 0 o = -1) then false else bif decide (S 16 1 k = S 16 1 o) then decide (S 16 2 k < S 16 2 o) else decide (S 16 1 o < S 16 1 k)
def hcol (S : Mem) (k : Nat) (h : Int32) : Nat → Int32
  | 0 => h
  | n + 1 => bif cntI (S 1 2 k) (nI n) && ylB S k n then wthI (hcol S k h n) (nI k) true else hcol S k h n
def hrow (S : Mem) (h : Int32) : Nat → Int32
  | 0 => h
  | n + 1 => hcol S n (hrow S h n) 6
def vsh (S : Mem) (k : Nat) : Int32 := bif cntI (S 15 0 3) (nI k) then -1 else S 16 0 k
def dkSt (w : Int32) : Bool := decide (w ≠ -1) && decide (w ≠ nI 101)
def dkA (S : Mem) (ka ia : Nat) (L : List Nat) (k j : Nat) : Int32 := S ka ia (L.getD j 0 * 6 + k)
def dkI (S : Mem) (nc ka ia : Nat) (L : List Nat) (k n : Nat) : Option Nat := fstN (fun j => dkSt (cWh S nc (dkA S ka ia L k j))) n
def dkM (S : Mem) (nc ka ia kr ir : Nat) (L : List Nat) (k : Nat) : Mem := match dkI S nc ka ia L k L.length with
  | none => S
  | some j => bif decide (cWh S nc (dkA S ka ia L k j) = nI 100) then S else uM (uM (uM S 16 0 k (cWh S nc (dkA S ka ia L k j))) 16 1 k (nI j)) 16 2 k (S kr ir (ix (dkA S ka ia L k j)))
def foM (S : Mem) (nc ka ia kr ir : Nat) (L : List Nat) : Nat → Mem
  | 0 => ogM S
  | n + 1 => dkM (foM S nc ka ia kr ir L n) nc ka ia kr ir L n
def ouM (S : Mem) (nc ka ia kr ir : Nat) (L : List Nat) : Mem := uM (foM S nc ka ia kr ir L 6) 15 0 3 (hrow (foM S nc ka ia kr ir L 6) (foM S nc ka ia kr ir L 6 15 0 3) 6)
theorem dkM_fr {S : Mem} {nc ka ia kr ir k a b : Nat} {L : List Nat} (h : a ≠ 16) : dkM S nc ka ia kr ir L k a b = S a b := by
  unfold dkM
  cases dkI S nc ka ia L k L.length with
  | none => rfl
  | some j =>
    dsimp only
    cases decide (cWh S nc (dkA S ka ia L k j) = nI 100) with
    | true => rfl
    | false =>
      show uM (uM (uM _ _ _ _ _) _ _ _ _) _ _ _ _ a b = _
      unfold uM
      rw [uS_n (fun z => h z.1), uS_n (fun z => h z.1), uS_n (fun z => h z.1)]
theorem ogM_fr {S : Mem} {a b : Nat} (h : a ≠ 16) (h2 : a ≠ 15) : ogM S a b = S a b := by
  unfold ogM uM
  rw [uS_n (fun z => h2 z.1), uS_n (fun z => h z.1)]
theorem foM_fr {S : Mem} {nc ka ia kr ir a b : Nat} {L : List Nat} (h : a ≠ 16) (h2 : a ≠ 15) : ∀ n, foM S nc ka ia kr ir L n a b = S a b
  | 0 => ogM_fr h h2
  | n + 1 => by rw [foM, dkM_fr h, foM_fr h h2 n]
