/-! approving: both sides -/
def okR (T : Mem) (p c t : Nat) : Bool := decide (T 18 1 p = 0) && (bitI (T 18 0 (t / 7 % 4)) (nI p) && (!decide (T 18 6 c = nI p) && (!decide (T 18 13 (8 * c + p) = nI 1) && !decide (T 18 11 c = nI 3))))
theorem ap_ref {T : Mem} {p c nc t : Nat} (hp : p < 8) (hc : c < nc) (hnc : nc ≤ 40) : rApprove T (nI p) (nI c) nc t = bif okR T p c t then rAppr (uM (uM T 18 13 (8 * c + p) (nI 1)) 18 14 (8 * c + p) (nI t)) c else fl T 2 := by
  have ip : ix (nI p) = p := ix_nI (by omega)
  have ic : ix (nI c) = c := ix_nI (by omega)
  unfold rApprove okR
  rw [rgB_nI (by omega), rgB_nI (by omega), decide_eq_true hp, decide_eq_true hc, ip, ic, cond_true, cond_true]
  by_cases h1 : T 18 1 p = 0
  · rw [decide_eq_false (p := T 18 1 p ≠ 0) (fun z => z h1), decide_eq_true h1, cond_false, Bool.true_and]
    cases bitI (T 18 0 (t / 7 % 4)) (nI p) with
    | false => rfl
    | true =>
      rw [cond_true, Bool.true_and]
      cases decide (T 18 6 c = nI p) with
      | true => rfl
      | false =>
        rw [cond_false, Bool.not_false, Bool.true_and]
        cases decide (T 18 13 (8 * c + p) = nI 1) with
        | true => rfl
        | false =>
          rw [cond_false, Bool.not_false, Bool.true_and]
          cases decide (T 18 11 c = nI 3) with
          | true => rfl
          | false => rfl
  · rw [decide_eq_true (p := T 18 1 p ≠ 0) h1, decide_eq_false h1, cond_true, Bool.false_and, cond_false]
theorem ap_good {S : Mem} {c p : Nat} {v : Int32} (h : I_giv1 S c) (hp : p < 8) (hbit : cntI (S 9 c 5) (nI p) = false) (hv : v = wthI (S 9 c 5) (nI p) true) : bcF v = nI (haN S c + 1) := by
  obtain ⟨⟨x, hx, e⟩, g⟩ := h
  obtain ⟨w, hw, ew⟩ := wth_256 x hx p hp
  rw [hv, e, ew, bcF_ok w hw]
  congr 1
  unfold haN
  have hb : ∀ q, q < 8 → Nat.testBit w q = if q = p then true else cntI (S 9 c 5) (nI q) := fun q hq => by
    rw [← cnt_nI w hw q hq, ← ew, ← e, wth_cnt _ true (by omega) (by omega)]
  refine cntB_one (p := p) hp ?_ ?_ (fun q hq hne => ?_)
  · rw [← (g p hp).2.1]; exact hbit
  · rw [hb p hp, if_pos rfl]
  · rw [hb q hq, if_neg hne]; exact (g q hq).2.1.symm
theorem ap_mgood {S : Mem} {c p : Nat} {f : Nat → Int32} (h : I_giv1 S c) (hp : p < 8) (hbit : cntI (S 9 c 5) (nI p) = false) (hf : ∀ x, f x = if x = 8 * c + p then nI 1 else S 18 13 x) : cntB (fun q => decide (f (8 * c + q) = nI 1)) 8 = haN S c + 1 := by
  obtain ⟨-, g⟩ := h
  unfold haN
  refine cntB_one (p := p) hp ?_ ?_ (fun q hq hne => ?_)
  · rw [← (g p hp).2.1]; exact hbit
  · rw [hf, if_pos rfl]; exact decide_eq_true rfl
  · rw [hf, if_neg (by omega), ← (g q hq).1]; exact (g q hq).2.1.symm
