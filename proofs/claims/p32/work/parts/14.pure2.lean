/-! paths of groups -/
def pthF (par : Nat → Int32) : Nat → Nat → List Nat
  | 0, g => [g]
  | f + 1, g => bif par g == -1 then [g] else g :: pthF par f (par g).toNatClampNeg
def pth (par : Nat → Int32) (g : Nat) : List Nat := pthF par g g
def PAR (par : Nat → Int32) (ng : Nat) : Prop := par 0 = -1 ∧ ∀ g, 0 < g → g < ng → ∃ h, h < g ∧ par g = nI h
theorem pthF_eq {par : Nat → Int32} {ng : Nat} (hp : PAR par ng) (hng : ng ≤ 10) : ∀ (f g : Nat), g ≤ f → g < ng → pthF par f g = pthF par g g
  | 0, g, h, _ => by rw [show g = 0 by omega]
  | f + 1, g, h, hg => by
    rcases Nat.eq_zero_or_pos g with rfl | h0
    · unfold pthF
      rw [hp.1]; rfl
    · obtain ⟨h', e1, e2⟩ := hp.2 g h0 hg
      obtain ⟨g', rfl⟩ : ∃ g', g = g' + 1 := ⟨g - 1, by omega⟩
      unfold pthF
      rw [e2, nI_clamp (by omega), pthF_eq hp hng f h' (by omega) (by omega), pthF_eq hp hng g' h' (by omega) (by omega)]
theorem pth_0 {par : Nat → Int32} : pth par 0 = [0] := rfl
theorem pth_s {par : Nat → Int32} {ng g h : Nat} (hp : PAR par ng) (hng : ng ≤ 10) (h0 : 0 < g) (hg : g < ng) (e : par g = nI h) (hh : h < g) : pth par g = g :: pth par h := by
  unfold pth
  obtain ⟨g', rfl⟩ : ∃ g', g = g' + 1 := ⟨g - 1, by omega⟩
  rw [show pthF par (g' + 1) (g' + 1) = (bif par (g' + 1) == -1 then [g' + 1] else (g' + 1) :: pthF par g' (par (g' + 1)).toNatClampNeg) from rfl]
  have hb : (par (g' + 1) == -1) = false := by
    rw [e]; exact beq_eq_false_iff_ne.mpr (m1_ne (by omega))
  rw [hb, e, nI_clamp (by omega), pthF_eq hp hng g' h (by omega) (by omega)]
  rfl
theorem pth_len {par : Nat → Int32} {ng : Nat} (hp : PAR par ng) (hng : ng ≤ 10) : ∀ (n g : Nat), g < n → g < ng → 0 < (pth par g).length ∧ (pth par g).length ≤ g + 1 ∧ (∀ x ∈ pth par g, x ≤ g) ∧ (pth par g).getD 0 0 = g ∧ (pth par g).Nodup
  | 0, g, h, _ => by omega
  | n + 1, g, h, hg => by
    rcases Nat.eq_zero_or_pos g with rfl | h0
    · rw [pth_0]; simp
    · obtain ⟨h', e1, e2⟩ := hp.2 g h0 hg
      rw [pth_s hp hng h0 hg e2 e1]
      obtain ⟨a, b, c, d, e⟩ := pth_len hp hng n h' (by omega) (by omega)
      refine ⟨by simp, by simp; omega, fun x hx => ?_, rfl, List.nodup_cons.mpr ⟨fun z => ?_, e⟩⟩
      · rcases List.mem_cons.mp hx with rfl | hx
        · exact Nat.le_refl _
        · have := c x hx; omega
      · have := c g z; omega
theorem pth_at {par : Nat → Int32} {ng : Nat} (hp : PAR par ng) (hng : ng ≤ 10) : ∀ (n g i : Nat), g < n → g < ng → i + 1 < (pth par g).length → ∃ j h, (pth par g).getD i 0 = j ∧ 0 < j ∧ j < ng ∧ h < j ∧ par j = nI h ∧ (pth par g).getD (i + 1) 0 = h
  | 0, g, i, h, _, _ => by omega
  | n + 1, g, i, h, hg, hi => by
    rcases Nat.eq_zero_or_pos g with rfl | h0
    · rw [pth_0] at hi; simp at hi
    · obtain ⟨h', e1, e2⟩ := hp.2 g h0 hg
      rw [pth_s hp hng h0 hg e2 e1] at hi ⊢
      cases i with
      | zero => exact ⟨g, h', rfl, h0, hg, e1, e2, (pth_len hp hng n h' (by omega) (by omega)).2.2.2.1⟩
      | succ i =>
        obtain ⟨j, h2, a1, a2, a3, a4, a5, a6⟩ := pth_at hp hng n h' i (by omega) (by omega) (by simpa using hi)
        exact ⟨j, h2, a1, a2, a3, a4, a5, a6⟩
theorem pth_in {par : Nat → Int32} {ng g i : Nat} (hp : PAR par ng) (hng : ng ≤ 10) (hg : g < ng) (hi : i < (pth par g).length) : (pth par g).getD i 0 < ng := by
  have h := pth_len hp hng (g + 1) g (Nat.lt_succ_self g) hg
  have hm : (pth par g).getD i 0 ∈ pth par g := by
    rw [List.getD_eq_getElem?_getD, List.getElem?_eq_getElem hi]
    exact List.getElem_mem hi
  exact Nat.lt_of_le_of_lt (h.2.2.1 _ hm) hg
/-- the slots of a machine's layers: its own (10), its group, and so on -/
def lay (par : Nat → Int32) (g : Nat) : List Nat := 10 :: pth par g
def TK (S : Mem) : Prop := ∀ q, q < 792 → S 18 5 q = -1 ∨ ∃ c, c < 40 ∧ S 18 5 q = nI c
def nhB (S : Mem) (x : Int32) : Bool := decide (x ≠ -1) && decide (S 18 11 x.toNatClampNeg ≠ nI 1)
def mHalt (S : Mem) (m : Nat) : Bool := anyB (fun i => nhB S (S 18 5 (66 * m + i))) 66
def mOk (S : Mem) (pl k : Nat) (c : Nat) : Bool := decide (S 18 11 c = nI 1) && (decide (S 18 7 c = nI pl) && decide (S 18 8 c = nI k))
def mOkI (S : Mem) (pl k : Int32) (c : Nat) : Bool := decide (S 18 11 c = nI 1) && (decide (S 18 7 c = pl) && decide (S 18 8 c = k))
def mTopI (S : Mem) (nc : Nat) (pl k : Int32) : Option Nat := bestN (mOkI S pl k) (S 18 12) nc
def plc (m s : Nat) : Nat := if s = 10 then 100 + m else s
def mTop (S : Mem) (nc m s k : Nat) : Option Nat := mTopI S nc (nI (plc m s)) (nI k)
theorem mTop_lt {S : Mem} {nc m s k c : Nat} (h : mTop S nc m s k = some c) : c < nc := (bestN_lt h).1
theorem mTopI_lt {S : Mem} {nc c : Nat} {pl k : Int32} (h : mTopI S nc pl k = some c) : c < nc := (bestN_lt h).1
def mLag (S : Mem) (nc m s : Nat) : Bool := anyB (fun k => decide (S 18 5 (6 * (11 * m + s) + k) ≠ oI (mTop S nc m s k))) 6
