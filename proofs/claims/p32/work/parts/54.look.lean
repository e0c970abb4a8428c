/-! both sides' looks at a machine -/
theorem fo_15 {S : Mem} {nc ka ia kr ir : Nat} {L : List Nat} : ∀ n, foM S nc ka ia kr ir L n 15 0 3 = nI 0
  | 0 => by
    show ogM S 15 0 3 = nI 0
    unfold ogM
    exact uM_s
  | n + 1 => by
    show dkM (foM S nc ka ia kr ir L n) nc ka ia kr ir L n 15 0 3 = nI 0
    rw [dkM_fr (by decide), fo_15 n]
theorem cWh_eq {S : Mem} {ng nm nc t pa rk mo c : Nat} (h : INV S ng nm nc t pa rk mo) (hc : c < nc) : cWh S nc (nI c) = S 18 10 c ∧ S 18 10 c ≠ -1 := by
  have hnc := h.1.2.2.1.2
  obtain ⟨a, s', k', c1, c2, c3, c4, c5, c6, c7, c8, c9, c10, c11, c12, c13, c14⟩ := h.2.2.2.2.2.2.2.2.1 c hc
  refine ⟨?_, fun z => ?_⟩
  · unfold cWh
    rw [rgB_nI (by omega), decide_eq_true hc, ix_nI (by omega), ← c10]; rfl
  · obtain ⟨w, hw, e⟩ := rgB_t c11
    rw [← c10, e] at z
    exact m1_ne (by omega) z
section LOOK
variable {S : Mem} {ng nm nc t pa rk mo i ka ia kr ir : Nat} {tk : Bool} {P : Nat → Prop}
theorem look_eq (h : INV S ng nm nc t pa rk mo) (hi : i < nm) (hA : ∀ s k, s ≤ 10 → k < 6 → S ka ia (csl i s * 6 + k) = chI S nc i tk s k) (hin : ∀ s k, s ≤ 10 → k < 6 → chI S nc i tk s k = -1 ∨ ∃ c, c < nc ∧ P c ∧ chI S nc i tk s k = nI c) {k : Nat} (hk : k < 6) :
    (dR S nc ka ia kr ir (clay S i) k).1 = (rLook S nc i (grp S i) tk k).1 ∧ (((rLook S nc i (grp S i) tk k).1 = -1 ∧ (rLook S nc i (grp S i) tk k).2.1 = -1) ∨ ((rLook S nc i (grp S i) tk k).1 ≠ -1 ∧ ∃ j c, j < 11 ∧ c < nc ∧ P c ∧ (dR S nc ka ia kr ir (clay S i) k).2.1 = nI j ∧ (rLook S nc i (grp S i) tk k).2.1 = nI j ∧ (rLook S nc i (grp S i) tk k).2.2 = nI c ∧ (dR S nc ka ia kr ir (clay S i) k).2.2 = S kr ir c)) := by
  have hnc := h.1.2.2.1.2
  have hl := lc_len h hi
  have hlen := (h.1.2.2.2.2.2.2.1 i hi).2.1
  have hdk : dkI S nc ka ia (clay S i) k (clay S i).length = lkI S nc i (grp S i) tk k (lay (S 18 2) (grp S i)).length := by
    unfold dkI lkI
    rw [hl]
    refine fstN_cong fun j hj => ?_
    obtain ⟨a, b⟩ := lay_at h hi (by rw [hl]; exact hj)
    unfold dkA
    rw [a, hA _ k b hk]
    rcases hin _ k b hk with z | ⟨c, c1, c2, c3⟩
    · rw [z]
      have e : cWh S nc (-1) = -1 := rfl
      rw [e]; rfl
    · rw [c3, (cWh_eq h c1).1]
      unfold dkSt stopB
      rw [decide_eq_true (cWh_eq h c1).2, decide_eq_true (m1_ne (n := c) (by omega)), ix_nI (by omega)]
  unfold dR rLook lkR
  rw [hdk]
  cases hd : lkI S nc i (grp S i) tk k (lay (S 18 2) (grp S i)).length with
  | none => exact ⟨rfl, Or.inl ⟨rfl, rfl⟩⟩
  | some j =>
    obtain ⟨j1, j2, -⟩ := fstN_some.mp hd
    obtain ⟨a, b⟩ := lay_at h hi (by rw [hl]; exact j1)
    have hx : dkA S ka ia (clay S i) k j = chI S nc i tk ((lay (S 18 2) (grp S i)).getD j 0) k := by
      unfold dkA
      rw [a, hA _ k b hk]
    dsimp only
    rw [hx]
    rcases hin _ k b hk with z | ⟨c, c1, c2, c3⟩
    · rw [z] at j2
      have hz : stopB S (-1) = false := rfl
      rw [hz] at j2
      cases j2
    · rw [c3, (cWh_eq h c1).1, ix_nI (by omega)]
      cases hb : decide (S 18 10 c = nI 100) with
      | true => exact ⟨rfl, Or.inl ⟨rfl, rfl⟩⟩
      | false => exact ⟨rfl, Or.inr ⟨(cWh_eq h c1).2, j, c, by omega, c1, c2, rfl, rfl, rfl, rfl⟩⟩
theorem hid_eq (h : INV S ng nm nc t pa rk mo) (hi : i < nm) (hka : ka ≠ 16 ∧ ka ≠ 15) (hkr : kr ≠ 16 ∧ kr ≠ 15) (hA : ∀ s k, s ≤ 10 → k < 6 → S ka ia (csl i s * 6 + k) = chI S nc i tk s k) (hin : ∀ s k, s ≤ 10 → k < 6 → chI S nc i tk s k = -1 ∨ ∃ c, c < nc ∧ P c ∧ chI S nc i tk s k = nI c)
    (hrk : ∀ c d, c < nc → d < nc → P c → P d → (S kr ir c < S kr ir d ↔ S 18 12 c < S 18 12 d)) {k : Nat} (hk : k < 6) : hidC (foM S nc ka ia kr ir (clay S i) 6) k = rHid S nc i (grp S i) tk k := by
  have hnc := h.1.2.2.1.2
  have e1 : foM S nc ka ia kr ir (clay S i) 6 1 = S 1 := funext fun b => foM_fr (by decide) (by decide) 6
  unfold hidC rHid hidR
  refine anyB_cong fun o ho => ?_
  rw [e1, (h.2.2.2.2.2.2.2.2.2.2.2.2.1 k o hk ho).1]
  congr 1
  obtain ⟨f1, f2⟩ := (fo_at (S := S) (nc := nc) (ia := ia) (ir := ir) (L := clay S i) hka hkr 6 (Nat.le_refl 6)).1 k hk
  obtain ⟨g1, g2⟩ := (fo_at (S := S) (nc := nc) (ia := ia) (ir := ir) (L := clay S i) hka hkr 6 (Nat.le_refl 6)).1 o ho
  obtain ⟨a1, a2⟩ := look_eq (kr := kr) (ir := ir) h hi hA hin hk
  obtain ⟨b1, b2⟩ := look_eq (kr := kr) (ir := ir) h hi hA hin ho
  unfold ylB
  rw [f1, g1, a1, b1]
  dsimp only
  rcases a2 with ⟨a3, a4⟩ | ⟨a3, j, c, a4, a5, a6, a7, a8, a9, a10⟩
  · rw [decide_eq_true a3, decide_eq_false (p := (rLook S nc i (grp S i) tk k).1 ≠ -1) (fun z => z a3)]; rfl
  · rw [decide_eq_false a3, decide_eq_true (p := (rLook S nc i (grp S i) tk k).1 ≠ -1) a3]
    rcases b2 with ⟨b3, b4⟩ | ⟨b3, j', c', b4, b5, b6, b7, b8, b9, b10⟩
    · rw [decide_eq_true b3, decide_eq_false (p := (rLook S nc i (grp S i) tk o).1 ≠ -1) (fun z => z b3)]; rfl
    · rw [decide_eq_false b3, decide_eq_true (p := (rLook S nc i (grp S i) tk o).1 ≠ -1) b3]
      obtain ⟨f3, f4⟩ := f2 (by rw [a1]; exact a3)
      obtain ⟨g3, g4⟩ := g2 (by rw [b1]; exact b3)
      rw [f3, f4, g3, g4, a7, a8, a9, a10, b7, b8, b9, b10, ix_nI (by omega), ix_nI (by omega)]
      rw [cond_false, cond_false, Bool.true_and, Bool.true_and]
      have hlt : decide (nI j' < nI j) = decide (j' < j) := decide_eq_decide.mpr (by rw [i32_lt, toInt_nI (by omega), toInt_nI (by omega)]; omega)
      have heq : decide (nI j = nI j') = decide (j = j') := decide_eq_decide.mpr (nI_eq (by omega) (by omega))
      have hrr : decide (S kr ir c < S kr ir c') = decide (S 18 12 c < S 18 12 c') := decide_eq_decide.mpr (hrk c c' a5 b5 a6 b6)
      rw [hlt, heq, hrr]
      by_cases hj : j = j'
      · rw [decide_eq_true hj, decide_eq_false (show ¬ j' < j by omega)]; simp
      · rw [decide_eq_false hj, cond_false, Bool.false_and, Bool.or_false]
theorem ou_vsh (h : INV S ng nm nc t pa rk mo) (hi : i < nm) (hka : ka ≠ 16 ∧ ka ≠ 15) (hkr : kr ≠ 16 ∧ kr ≠ 15) (hA : ∀ s k, s ≤ 10 → k < 6 → S ka ia (csl i s * 6 + k) = chI S nc i tk s k) (hin : ∀ s k, s ≤ 10 → k < 6 → chI S nc i tk s k = -1 ∨ ∃ c, c < nc ∧ P c ∧ chI S nc i tk s k = nI c)
    (hrk : ∀ c d, c < nc → d < nc → P c → P d → (S kr ir c < S kr ir d ↔ S 18 12 c < S 18 12 d)) : ouM S nc ka ia kr ir (clay S i) 15 0 3 = orN (fun k => rHid S nc i (grp S i) tk k) 6 ∧ ∀ k, k < 6 → vsh (ouM S nc ka ia kr ir (clay S i)) k = (bif rHid S nc i (grp S i) tk k then -1 else (rLook S nc i (grp S i) tk k).1) ∧ loV (ouM S nc ka ia kr ir (clay S i)) k = (bif rHid S nc i (grp S i) tk k then -1 else (rLook S nc i (grp S i) tk k).2.1) := by
  have e15 : ouM S nc ka ia kr ir (clay S i) 15 0 3 = orN (hidC (foM S nc ka ia kr ir (clay S i) 6)) 6 := by
    unfold ouM
    rw [uM_s, fo_15, hrow_or]
  have e16 : ∀ a, ouM S nc ka ia kr ir (clay S i) 16 a = foM S nc ka ia kr ir (clay S i) 6 16 a := fun a => by unfold ouM uM; exact uS_n (fun z => absurd z.1 (by decide))
  refine ⟨e15.trans (orN_cong fun k hk => hid_eq h hi hka hkr hA hin hrk hk), fun k hk => ?_⟩
  obtain ⟨f1, f2⟩ := (fo_at (S := S) (nc := nc) (ia := ia) (ir := ir) (L := clay S i) hka hkr 6 (Nat.le_refl 6)).1 k hk
  obtain ⟨a1, a2⟩ := look_eq (kr := kr) (ir := ir) h hi hA hin hk
  have ev : vsh (ouM S nc ka ia kr ir (clay S i)) k = (bif rHid S nc i (grp S i) tk k then -1 else (rLook S nc i (grp S i) tk k).1) := by
    unfold vsh
    rw [e15, orN_cnt hk 6 (Nat.le_refl 6), decide_eq_true hk, Bool.true_and, hid_eq h hi hka hkr hA hin hrk hk, e16, f1, a1]
  refine ⟨ev, ?_⟩
  unfold loV
  rw [ev, e16]
  cases rHid S nc i (grp S i) tk k with
  | true => rfl
  | false =>
    rw [cond_false, cond_false]
    rcases a2 with ⟨a3, a4⟩ | ⟨a3, j, c, a4, a5, a6, a7, a8, a9, a10⟩
    · rw [decide_eq_true a3, cond_true, a4]
    · rw [decide_eq_false a3, cond_false, (f2 (by rw [a1]; exact a3)).1, a7, a8]
end LOOK
