/-! what the law needs of a call: the reference behind the class -/
def OKR (code : Nat) (v : Int32) (t mo : Nat) (r : Int32) (T : Mem) : Prop := T 17 0 0 = nI code ∧ code ≤ 3 ∧ (code = 0 → v = r ∧ T 19 0 0 = v) ∧ ∃ ng' nm' nc' t' pa' rk' mo', INV T ng' nm' nc' t' pa' rk' mo' ∧ t' ≤ t + 60 ∧ mo' ≤ mo + 1
theorem okr {S M : Mem} {code t mo : Nat} {v : Int32} {q : Int32 × Mem} (h : STEP code v t mo q) (hc : code ≤ 3) (h19 : q.2 19 = TT S code (uM M 19 0 0 v) 19) : OKR code v t mo q.1 q.2 := by
  obtain ⟨a, b, c⟩ := h
  refine ⟨a, hc, fun z => ⟨b z, ?_⟩, c⟩
  rw [h19, z]
  exact uM_s (S := M) (k := 19) (i := 0) (j := 0)
theorem TT_RI {S M : Mem} {ng nm nc t pa rk mo code : Nat} {v : Int32} (h : INV S ng nm nc t pa rk mo) (h17 : M 17 = S 17) (h18 : M 18 = S 18) : RI (TT S code (uM M 19 0 0 v)) ng nm nc t pa := by
  cases code with
  | zero => exact RI_fr h.2.1 h17 h18
  | succ n => exact h.2.1
theorem TT_RIv {S M : Mem} {ng nm nc t pa rk mo code : Nat} (h : INV S ng nm nc t pa rk mo) (h17 : M 17 = S 17) (h18 : M 18 = S 18) : RI (TT S code M) ng nm nc t pa := by
  cases code with
  | zero => exact RI_fr h.2.1 h17 h18
  | succ n => exact h.2.1
theorem b3 {c : Bool} {a b : Nat} (ha : a ≤ 3) (hb : b ≤ 3) : (bif c then a else b) ≤ 3 := by cases c <;> assumption
theorem b9 {S : Mem} {c : Bool} {x y : Int32 × Mem} (hx : x.2 19 = S 19) (hy : y.2 19 = S 19) : (bif c then x else y).2 19 = S 19 := by cases c <;> assumption
theorem sdC3 {x y : Int32} : sdC x y ≤ 3 := b3 (by decide) (by decide)
theorem leC3 {S : Mem} {x : Int32} : leC S x ≤ 3 := b3 (b3 (by decide) (by decide)) (by decide)
theorem cbC3 {S : Mem} {x : Int32} : cbC S x ≤ 3 := b3 (b3 (by decide) (by decide)) (by decide)
theorem paC3 {x : Int32} : paC x ≤ 3 := b3 (by decide) (by decide)
theorem agC3 {x : Int32} {ng : Nat} : agC x ng ≤ 3 := b3 (b3 (by decide) (by decide)) (by decide)
theorem amC3 {x : Int32} {ng nm : Nat} : amC x ng nm ≤ 3 := b3 (b3 (by decide) (by decide)) (by decide)
theorem mmC3 {S : Mem} {x y : Int32} {ng nm : Nat} : mmC S x y ng nm ≤ 3 := b3 (b3 (b3 (by decide) (by decide)) (by decide)) (by decide)
theorem woC3 {S : Mem} {x y : Int32} {nm nc : Nat} : woC S x y nm nc ≤ 3 := b3 (b3 (b3 (by decide) (by decide)) (by decide)) (by decide)
theorem spC3 {x : Int32} : spC x ≤ 3 := b3 (by decide) (by decide)
theorem rqC3 {x : Int32} {n : Nat} : rqC x n ≤ 3 := b3 (by decide) (by decide)
theorem prC3 {S : Mem} {x y z w : Int32} {ng nm nc : Nat} : prC S x y z w ng nm nc ≤ 3 := b3 (b3 (b3 (b3 (b3 (by decide) (by decide)) (by decide)) (by decide)) (by decide)) (by decide)
theorem apC3 {S : Mem} {x y : Int32} {nc t : Nat} : apC S x y nc t ≤ 3 := b3 (b3 (b3 (by decide) (by decide)) (by decide)) (by decide)
theorem wdC3 {S : Mem} {x : Int32} {nc : Nat} : wdC S x nc ≤ 3 := b3 (b3 (by decide) (by decide)) (by decide)
theorem exC3 {x y : Int32} : exC x y ≤ 3 := b3 (b3 (b3 (by decide) (by decide)) (by decide)) (by decide)
theorem toC3 {x y : Int32} {ng nm : Nat} : toC x y ng nm ≤ 3 := b3 (b3 (by decide) (by decide)) (by decide)
theorem taC3 {S : Mem} {x y z : Int32} {nm : Nat} : taC S x y z nm ≤ 3 := b3 (b3 (b3 (by decide) (by decide)) (by decide)) (by decide)
theorem r2C3 {x y : Int32} {nm : Nat} : r2C x y nm ≤ 3 := b3 (b3 (by decide) (by decide)) (by decide)
/-! the class leaves the reference alone -/
theorem leM_hi {S : Mem} {p nc nm k : Nat} {b : Bool} (hk : 17 ≤ k) : leM S p nc nm b k = S k := by
  cases b with
  | false => funext i; exact uS_n (fun z => by omega)
  | true =>
    funext i
    show cUnt (fHM (vcM (leS S p) p nc) nc) nc nm k i = _
    rw [cUnt_fr (by omega)]
    show uS _ 13 0 _ k i = _
    rw [uS_n (fun z => by omega), vcM_fr (by omega), leS_k (by omega) (by omega)]
theorem egM_hi {S : Mem} {i own g k : Nat} (hk : 17 ≤ k) : egM S i own g k = S k := by
  funext j
  show uS (EM S i (nI g) (egV own (S 1 1) g) (1 + (pth (S 1 1) g).length)) 8 i _ k j = _
  rw [uS_n (fun z => by omega)]
  show uM (uS (uM S 6 i 1 (nI g)) 7 i _) 6 i 3 _ k j = _
  unfold uM
  rw [uS_n (fun z => by omega), uS_n (fun z => by omega), uS_n (fun z => by omega)]
theorem amM_hi {S : Mem} {nm g k : Nat} (hk : 17 ≤ k) : amM S nm g k = S k := by
  funext j
  show uM (egM S nm (10 + nm) g) 0 0 7 _ k j = _
  unfold uM
  rw [uS_n (fun z => by omega), egM_hi hk]
theorem apM_hi {S : Mem} {p c nc k : Nat} (hk : 17 ≤ k) : apM S p c nc k = S k := by
  have e1 : apS S p c k = S k := by
    funext j
    show uM (uM (uM (uM S 0 0 11 _) 9 c 5 _) 10 c p _) 11 c p _ k j = _
    unfold uM
    rw [uS_n (fun z => by omega), uS_n (fun z => by omega), uS_n (fun z => by omega), uS_n (fun z => by omega)]
  have e2 : ∀ M : Mem, hoM M c nc k = M k := fun M => by
    funext j
    show uS (bif decide (uM M 9 c 4 (nI 1) 14 0 c = -1) then uM (uM (uM M 9 c 4 (nI 1)) 14 0 c (uM M 9 c 4 (nI 1) 0 0 10)) 0 0 10 (uM M 9 c 4 (nI 1) 0 0 10 + nI 1) else uM M 9 c 4 (nI 1)) 13 0 _ k j = _
    rw [uS_n (fun z => by omega)]
    cases decide (uM M 9 c 4 (nI 1) 14 0 c = -1) with
    | true =>
      show uM (uM (uM M 9 c 4 (nI 1)) 14 0 c _) 0 0 10 _ k j = _
      unfold uM
      rw [uS_n (fun z => by omega), uS_n (fun z => by omega), uS_n (fun z => by omega)]
    | false =>
      show uM M 9 c 4 (nI 1) k j = _
      unfold uM
      rw [uS_n (fun z => by omega)]
  unfold apM
  cases decide (apS S p c 9 c 4 ≠ nI 1) && decide (nI 2 ≤ bcF (apS S p c 9 c 5)) with
  | true => exact (e2 _).trans e1
  | false => exact e1
theorem prM_hi {S : Mem} {nc k : Nat} {x q w : Int32} (hk : 17 ≤ k) : prM S nc x q w k = S k := by
  funext j
  unfold prM uM
  rw [uS_n (fun z => by omega), uS_n (fun z => by omega), uS_n (fun z => by omega), uS_n (fun z => by omega), uS_n (fun z => by omega)]
theorem exM_hi {S : Mem} {a o k : Nat} {b : Bool} (hk : 17 ≤ k) : exM S a o b k = S k := by
  funext j
  unfold exM uM
  rw [uS_n (fun z => by omega), uS_n (fun z => by omega)]
theorem ruM_hi {S : Mem} {nc i k : Nat} (hk : 17 ≤ k) : ruM S nc i k = S k := by
  funext j
  unfold ruM
  cases cNear S nc i (clay S i) with
  | none => exact ouM_fr (by omega) (by omega)
  | some _ => exact ogM_fr (by omega) (by omega)
theorem duM_hi {S : Mem} {nc i k : Nat} (hk : 17 ≤ k) : duM S nc i k = S k := funext fun _ => ouM_fr (by omega) (by omega)
theorem daM_hi {S : Mem} {nc i k : Nat} (hk : 17 ≤ k) : daM S nc i k = S k := funext fun _ => (ouM_fr (by omega) (by omega)).trans (anM_fr (by omega) (by omega))
theorem uM_hi {S : Mem} {a i j k : Nat} {x : Int32} (ha : a < 17) (hk : 17 ≤ k) : uM S a i j x k = S k := funext fun _ => uS_n (fun z => by omega)
/-! the reference leaves the out array alone -/
theorem fl9 {S : Mem} {k : Nat} : (fl S k).2 19 = S 19 := rfl
theorem rSetDuty9 {S : Mem} {a b : Int32} : (rSetDuty S a b).2 19 = S 19 := b9 (b9 rfl fl9) fl9
theorem rAddGroup9 {S : Mem} {x : Int32} {ng : Nat} : (rAddGroup S x ng).2 19 = S 19 := b9 (b9 fl9 rfl) fl9
theorem rAddMachine9 {S : Mem} {x : Int32} {ng nm : Nat} : (rAddMachine S x ng nm).2 19 = S 19 := b9 (b9 fl9 rfl) fl9
theorem rWork9 {S : Mem} {x d : Int32} {nm : Nat} : (rWork S x d nm).2 19 = S 19 := b9 (b9 (b9 fl9 (b9 fl9 rfl)) fl9) fl9
theorem rSetPace9 {S : Mem} {x : Int32} : (rSetPace S x).2 19 = S 19 := b9 rfl fl9
theorem rIsBusy9 {S : Mem} {x : Int32} {nm : Nat} : (rIsBusy S x nm).2 19 = S 19 := b9 rfl rfl
theorem rIsStopped9 {S : Mem} {x : Int32} {nm : Nat} : (rIsStopped S x nm).2 19 = S 19 := b9 rfl rfl
theorem rPropose9 {S : Mem} {p x k w : Int32} {ng nm nc : Nat} : (rPropose S p x k w ng nm nc).2 19 = S 19 := b9 (b9 (b9 (b9 (b9 fl9 (b9 fl9 rfl)) fl9) fl9) fl9) fl9
theorem rAt9 {S : Mem} {k : Nat} {c : Int32} {nc : Nat} : (rAt S k c nc).2 19 = S 19 := b9 rfl fl9
theorem rApprovals9 {S : Mem} {c : Int32} {nc : Nat} : (rApprovals S c nc).2 19 = S 19 := b9 rfl fl9
theorem rTold9 {S : Mem} {x k : Int32} {ng nm nc : Nat} : (rTold S x k ng nm nc).2 19 = S 19 := b9 (b9 rfl fl9) fl9
theorem rTaken9 {S : Mem} {m y k : Int32} {nm : Nat} : (rTaken S m y k nm).2 19 = S 19 := b9 (b9 (b9 rfl fl9) fl9) fl9
theorem rBehind9 {S : Mem} {m : Int32} {nm nc : Nat} : (rBehind S m nm nc).2 19 = S 19 := b9 rfl fl9
theorem rSpread9 {S : Mem} {c : Int32} {nm nc : Nat} : (rSpread S c nm nc).2 19 = S 19 := b9 rfl fl9
theorem rMove9 {S : Mem} {m g : Int32} {ng nm : Nat} : (rMove S m g ng nm).2 19 = S 19 := b9 (b9 (b9 fl9 rfl) fl9) fl9
theorem rAppr9 {S : Mem} {c : Nat} : (rAppr S c).2 19 = S 19 := by
  unfold rAppr
  repeat (first | rfl | refine b9 ?_ ?_)
theorem rApprove9 {S : Mem} {p c : Int32} {nc t : Nat} : (rApprove S p c nc t).2 19 = S 19 := b9 (b9 (b9 fl9 (b9 (b9 fl9 (b9 fl9 (b9 fl9 rAppr9))) fl9)) fl9) fl9
theorem rExcl9 {S : Mem} {a b : Int32} {is_ : Bool} : (rExcl S a b is_).2 19 = S 19 := by
  show (bif (bitI (S 18 15 (ix a)) b == is_) then S else _ : Mem) 19 = S 19
  cases (bitI (S 18 15 (ix a)) b == is_) <;> rfl
theorem rExclude9 {S : Mem} {a b : Int32} {is_ : Bool} : (rExclude S a b is_).2 19 = S 19 := b9 (b9 (b9 rfl rExcl9) rfl) rfl
theorem rLeave9 {S : Mem} {x : Int32} {is_ : Bool} {nm nc : Nat} : (rLeave S x is_ nm nc).2 19 = S 19 := by
  refine b9 (b9 (b9 ?_ rfl) fl9) fl9
  funext i
  show uS (vMem (uM S 18 1 (ix x) (nI 2)) (ix x) nc) 18 4 (vUnt (vMem (uM S 18 1 (ix x) (nI 2)) (ix x) nc) nm) 19 i = S 19 i
  rw [uS_n (fun z => absurd z.1 (by decide)), vMem_fr (by unfold vScr; omega)]
  rfl
theorem rPass9 {S : Mem} {x : Int32} {nc nm pa : Nat} : (rPass S x nc nm pa).2 19 = S 19 := b9 (rDays_lo (by decide) (by decide) _) fl9
/-! the methods that look at a machine -/
theorem okl {S M : Mem} {ng nm nc t pa rk mo : Nat} {v v1 : Int32} (h : INV S ng nm nc t pa rk mo) (f : ∀ k i, k ≠ 15 → k ≠ 16 → ¬ (k = 13 ∧ i = 1) → ¬ (k = 14 ∧ i = 1) → M k i = S k i) (hv : v = v1) (a b d : Nat → Int32) : OKR 0 v t mo v1 (LK (uM (uM M 19 0 0 v) 17 0 0 (nI 0)) a b d) := by
  have h2 := step_s h f hv a b d
  exact ⟨h2.1, by decide, fun z => ⟨h2.2.1 z, uM_s (S := M) (k := 19) (i := 0) (j := 0)⟩, h2.2.2⟩
theorem okf {S : Mem} {ng nm nc t pa rk mo code : Nat} {v v1 : Int32} (h : INV S ng nm nc t pa rk mo) (hc : code ≠ 0) (h3 : code ≤ 3) : OKR code v t mo v1 (uM S 17 0 0 (nI code)) := ⟨uM_s, h3, fun z => absurd z hc, ng, nm, nc, t, pa, rk, mo, INV_th h _, by omega, by omega⟩
theorem lg_cmp_self {x : Int64} : lg_cmp x x = 0 := by
  unfold lg_cmp
  rw [if_neg (show ¬ x > x by rw [gt_iff_lt, Int64.lt_iff_toInt_lt]; omega), if_pos rfl]
