/-! the reference, as functions: it is the ghost here -/
def mGood (S : Mem) (c : Nat) : Nat := cntB (fun p => decide (S 18 13 (8 * c + p) = nI 1)) 8
