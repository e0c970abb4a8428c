/-! layers -/
theorem lay_s10 {par : Nat → Int32} {ng g i : Nat} (hp : PAR par ng) (hng : ng ≤ 10) (hg : g < ng) (hi : i < (lay par g).length) : (lay par g).getD i 0 ≤ 10 := by
  cases i with
  | zero => exact Nat.le_refl _
  | succ i => exact Nat.le_of_lt (Nat.lt_of_lt_of_le (pth_in hp hng hg (Nat.lt_of_succ_lt_succ hi)) hng)
theorem lay_len {par : Nat → Int32} {ng g : Nat} (hp : PAR par ng) (hng : ng ≤ 10) (hg : g < ng) : 2 ≤ (lay par g).length ∧ (lay par g).length ≤ 11 := by
  have h := pth_len hp hng (g + 1) g (Nat.lt_succ_self g) hg
  show 2 ≤ (pth par g).length + 1 ∧ (pth par g).length + 1 ≤ 11
  omega
