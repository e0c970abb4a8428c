/-! days in step -/
def mrg (C R : Mem) : Mem := fun k => if k < 17 then C k else R k
theorem mrg_up {C R : Mem} {i : Nat} {f f5 : Nat → Int32} : mrg (uS C 8 i f) (uS R 18 5 f5) = uS (uS (mrg C R) 8 i f) 18 5 f5 := by
  funext a b
  unfold mrg uS
  by_cases h : a < 17
  · have h18 : ¬ (a = 18 ∧ b = 5) := fun z => by omega
    simp only [if_pos h, if_neg h18]
  · have h8 : ¬ (a = 8 ∧ b = i) := fun z => by omega
    simp only [if_neg h, if_neg h8]
theorem mrg_now {C R : Mem} {x y : Int32} : mrg (uM C 0 0 0 x) (uM R 17 0 1 y) = uM (uM (mrg C R) 0 0 0 x) 17 0 1 y := by
  funext a b
  have e0 : mrg C R 0 = C 0 := rfl
  have e17 : uM (mrg C R) 0 0 0 x 17 = R 17 := rfl
  unfold uM
  unfold uM at e17
  rw [e17, e0]
  unfold mrg uS
  by_cases h : a < 17
  · have h18 : ¬ (a = 17 ∧ b = 0) := fun z => by omega
    simp only [if_pos h, if_neg h18]
  · have h8 : ¬ (a = 0 ∧ b = 0) := fun z => by omega
    simp only [if_neg h, if_neg h8]
theorem mrg_self {S : Mem} : mrg S S = S := by funext a; unfold mrg; by_cases h : a < 17 <;> simp [h]
theorem day_st {q w : Mem × Nat × Nat} {ng nm nc t pa rk mo i : Nat} (h : INV (mrg q.1 w.1) ng nm nc t pa rk mo) (hi : i < nm) (ha : q.2.1 + w.2.1 = pa) (hb : q.2.2 = w.2.2) : INV (mrg (cSt nc pa q i).1 (pSt nc w i).1) ng nm nc t pa rk mo ∧ (cSt nc pa q i).2.1 + (pSt nc w i).2.1 = pa ∧ (cSt nc pa q i).2.2 = (pSt nc w i).2.2 := by
  have hnm := h.1.2.1.2
  have hh : (cNear q.1 nc i (clay q.1 i)).isSome = mHalt w.1 i := halt_eq h hi
  have hnr : cNear q.1 nc i (clay q.1 i) = fstN (fun j => mNhL w.1 i ((lay (w.1 18 2) (grp w.1 i)).getD j 0)) (lay (w.1 18 2) (grp w.1 i)).length := near_eq h hi
  have hfr : cFar q.1 i (clay q.1 i) = mFar w.1 nc i (grp w.1 i) := far_eq h hi
  have hbz : decide (q.1 0 0 0 < q.1 6 i 2) = decide (w.1 17 0 1 < w.1 18 4 i) := by
    have e1 : q.1 6 i 2 = w.1 18 4 i := (h.2.2.2.2.2.2.1 i (by omega)).2
    have e2 : q.1 0 0 0 = nI t := h.1.2.2.2.1.1
    have e3 : w.1 17 0 1 = nI t := h.2.1.2.2.2.1.1
    rw [e1, e2, e3]
  unfold cSt pSt
  cases hn : cNear q.1 nc i (clay q.1 i) with
  | some j =>
    have hm : mHalt w.1 i = true := by rw [← hh, hn]; rfl
    rw [hm, cond_true]
    have hbk : bkF w.1 i = j := by unfold bkF; rw [← hnr, hn]; rfl
    have hj : j < (clay q.1 i).length := (fstN_some.mp hn).1
    rw [hbk]
    refine ⟨?_, ha, by rw [hb]⟩
    have := INV_back h hi hj
    rw [← mrg_up] at this
    exact this
  | none =>
    have hm : mHalt w.1 i = false := by rw [← hh, hn]; rfl
    rw [hm, cond_false]
    dsimp only
    rw [← hbz]
    cases hd : decide (q.1 0 0 0 < q.1 6 i 2) with
    | true => exact ⟨h, ha, hb⟩
    | false =>
      rw [cond_false, cond_false]
      have hpa : decide (pa ≤ q.2.1) = decide (w.2.1 = 0) := decide_eq_decide.mpr ⟨fun z => by omega, fun z => by omega⟩
      rw [hpa]
      by_cases hz : w.2.1 = 0
      · rw [decide_eq_true hz]; exact ⟨h, ha, hb⟩
      · rw [decide_eq_false hz, cond_false, cond_false]
        have hff : decide (cFar q.1 i (clay q.1 i) ≠ 0) = decide (mFar w.1 nc i (grp w.1 i) ≠ 0) := by rw [hfr]
        rw [hff]
        by_cases hf : mFar w.1 nc i (grp w.1 i) = 0
        · rw [decide_eq_false (fun z => z hf)]; exact ⟨h, ha, hb⟩
        · rw [decide_eq_true (p := mFar w.1 nc i (grp w.1 i) ≠ 0) hf, cond_true, cond_true]
          obtain ⟨j, hj⟩ : ∃ j, mFar w.1 nc i (grp w.1 i) = j + 1 := ⟨mFar w.1 nc i (grp w.1 i) - 1, by omega⟩
          refine ⟨?_, by dsimp only; omega, by dsimp only; rw [hb]⟩
          have hjl : j < (clay q.1 i).length := by
            have h1 : cFar q.1 i (clay q.1 i) = j + 1 := hfr.trans hj
            have h2 : cFar q.1 i (clay q.1 i) ≤ (clay q.1 i).length := farN_le _ _
            omega
          have := INV_take h hi hjl
          rw [← mrg_up] at this
          unfold cTake mTake
          rw [hfr, hj]
          exact this
theorem day_sts {q w : Mem × Nat × Nat} {ng nm nc t pa rk mo : Nat} (h : INV (mrg q.1 w.1) ng nm nc t pa rk mo) (ha : q.2.1 + w.2.1 = pa) (hb : q.2.2 = w.2.2) : ∀ n, n ≤ nm → INV (mrg (cSts nc pa q n).1 (pSts nc w n).1) ng nm nc t pa rk mo ∧ (cSts nc pa q n).2.1 + (pSts nc w n).2.1 = pa ∧ (cSts nc pa q n).2.2 = (pSts nc w n).2.2
  | 0, _ => ⟨h, ha, hb⟩
  | n + 1, hn => by
    obtain ⟨a, b, c⟩ := day_sts h ha hb n (by omega)
    exact day_st a (by omega) b c
theorem INV_now {S : Mem} {ng nm nc t pa rk mo n : Nat} (h : INV S ng nm nc t pa rk mo) (hn : t + n < 2 ^ 20) : INV (uM (uM S 0 0 0 (S 0 0 0 + nI n)) 17 0 1 (S 17 0 1 + nI n)) ng nm nc (t + n) pa rk mo := by
  obtain ⟨ki, ri, cnt, duty, par, per, mach, tk, ch, frs, giv, heads, ex, mom, st, rkk⟩ := h
  refine ⟨KI_day ki hn, ?_, cnt, duty, par, per, mach, tk, ch, frs, giv, heads, ex, mom, st, rkk⟩
  obtain ⟨r1, r2, r3, r4, r5⟩ := ri
  refine ⟨r1, r2, r3, ⟨?_, hn⟩, r5⟩
  show uM _ 17 0 1 (S 17 0 1 + nI n) 17 0 1 = _
  rw [uM_s, r4.1, nI_add]
theorem day_eq {C R : Mem} {ng nm nc t pa rk mo : Nat} (h : INV (mrg C R) ng nm nc t pa rk mo) (ht : t + 1 < 2 ^ 20) : INV (mrg (cDay (uM C 0 0 0 (C 0 0 0 + nI 1)) nc nm pa).1 (rDay R nc nm pa).1) ng nm nc (t + 1) pa rk mo ∧ (cDay (uM C 0 0 0 (C 0 0 0 + nI 1)) nc nm pa).2 = (rDay R nc nm pa).2 := by
  have h1 : INV (mrg (uM C 0 0 0 (C 0 0 0 + nI 1)) (uM R 17 0 1 (R 17 0 1 + nI 1))) ng nm nc (t + 1) pa rk mo := by
    rw [mrg_now]
    exact INV_now h ht
  have h2 := day_sts (q := (uM C 0 0 0 (C 0 0 0 + nI 1), 0, 0)) (w := (uM R 17 0 1 (R 17 0 1 + nI 1), pa, 0)) h1 (Nat.zero_add pa) rfl nm (Nat.le_refl nm)
  exact ⟨h2.1, h2.2.2⟩
theorem pSt_cnt {nc : Nat} {q : Mem × Nat × Nat} {m : Nat} : (pSt nc q m).2.2 = q.2.2 + 1 ∨ pSt nc q m = q := by
  unfold pSt
  cases mHalt q.1 m with
  | true => exact Or.inl rfl
  | false =>
    rw [cond_false]
    cases decide (q.1 17 0 1 < q.1 18 4 m) with
    | true => exact Or.inr rfl
    | false =>
      rw [cond_false]
      cases decide (q.2.1 = 0) with
      | true => exact Or.inr rfl
      | false =>
        rw [cond_false]
        cases decide (mFar q.1 nc m (grp q.1 m) ≠ 0) with
        | true => exact Or.inl rfl
        | false => exact Or.inr rfl
theorem pSts_idle {nc : Nat} {q : Mem × Nat × Nat} : ∀ n, q.2.2 ≤ (pSts nc q n).2.2 ∧ ((pSts nc q n).2.2 = q.2.2 → pSts nc q n = q ∧ ∀ m, m < n → pSt nc q m = q)
  | 0 => ⟨Nat.le_refl _, fun _ => ⟨rfl, fun m hm => absurd hm (Nat.not_lt_zero _)⟩⟩
  | n + 1 => by
    obtain ⟨i1, i2⟩ := pSts_idle (nc := nc) (q := q) n
    show q.2.2 ≤ (pSt nc (pSts nc q n) n).2.2 ∧ ((pSt nc (pSts nc q n) n).2.2 = q.2.2 → pSt nc (pSts nc q n) n = q ∧ _)
    rcases pSt_cnt (nc := nc) (q := pSts nc q n) (m := n) with z | z
    · exact ⟨by omega, fun w => by omega⟩
    · rw [z]
      refine ⟨i1, fun w => ?_⟩
      obtain ⟨j1, j2⟩ := i2 w
      rw [j1] at z
      refine ⟨j1, fun m hm => ?_⟩
      by_cases hmn : m = n
      · subst hmn; exact z
      · exact j2 m (by omega)
theorem pSts_same {nc : Nat} {q : Mem × Nat × Nat} : ∀ n, (∀ m, m < n → pSt nc q m = q) → pSts nc q n = q
  | 0, _ => rfl
  | n + 1, h => by
    show pSt nc (pSts nc q n) n = q
    rw [pSts_same n (fun m hm => h m (by omega)), h n (Nat.lt_succ_self n)]
