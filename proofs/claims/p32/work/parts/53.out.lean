/-! what comes out for a machine -/
theorem INV_fr {S T : Mem} {ng nm nc t pa rk mo : Nat} (h : INV S ng nm nc t pa rk mo) (f : ∀ k i, k ≠ 15 → k ≠ 16 → ¬ (k = 13 ∧ i = 1) → ¬ (k = 14 ∧ i = 1) → T k i = S k i) : INV T ng nm nc t pa rk mo := by
  obtain ⟨ki, ri, cnt, duty, par, per, mach, tk, ch, frs, giv, heads, ex, mom, st, rkk⟩ := h
  have g : ∀ a, a ≠ 15 → a ≠ 16 → a ≠ 13 → a ≠ 14 → T a = S a := fun a q1 q2 q3 q4 => funext fun i => f a i q1 q2 (fun z => q3 z.1) (fun z => q4 z.1)
  have k0 := g 0 (by decide) (by decide) (by decide) (by decide)
  have k1 := g 1 (by decide) (by decide) (by decide) (by decide)
  have k5 := g 5 (by decide) (by decide) (by decide) (by decide)
  have k6 := g 6 (by decide) (by decide) (by decide) (by decide)
  have k7 := g 7 (by decide) (by decide) (by decide) (by decide)
  have k8 := g 8 (by decide) (by decide) (by decide) (by decide)
  have k9 := g 9 (by decide) (by decide) (by decide) (by decide)
  have k10 := g 10 (by decide) (by decide) (by decide) (by decide)
  have k11 := g 11 (by decide) (by decide) (by decide) (by decide)
  have k17 := g 17 (by decide) (by decide) (by decide) (by decide)
  have k18 := g 18 (by decide) (by decide) (by decide) (by decide)
  have k13 : T 13 0 = S 13 0 := f 13 0 (by decide) (by decide) (by decide) (by decide)
  have k14 : T 14 0 = S 14 0 := f 14 0 (by decide) (by decide) (by decide) (by decide)
  have ecl : ∀ i, clay T i = clay S i := fun i => clay_fr (by rw [k6]) (by rw [k7])
  refine ⟨?_, RI_fr ri k17 k18, ?_, ?_, ?_, ?_, ?_, ?_, ?_, ?_, ?_, ?_, ?_, ?_, ?_, ?_⟩
  · exact KI_V ki (fun j _ _ => by rw [k0]) (by rw [k1]) (fun i j _ => by rw [k6]) (fun i => by rw [k7]) (fun i => by rw [k9])
  · unfold I_cnt at cnt ⊢; rw [k0, k17]; exact cnt
  · intro i hi; rw [k1, k18]; exact duty i hi
  · intro i hi; rw [k1, k18]; exact par i hi
  · intro i hi; rw [k5, k18]; exact per i hi
  · intro i hi
    have eg : grp T i = grp S i := by unfold grp; rw [k18]
    rw [k6, k18, ecl, eg]; exact mach i hi
  · unfold I_tk at tk ⊢
    rw [k18, k8, k9]
    refine ⟨tk.1, fun i hi q hq => ?_⟩
    rw [ecl]; exact tk.2 i hi q hq
  · intro c hc; unfold I_ch1; rw [k9, k14, k18]; exact ch c hc
  · intro c h1 h2; rw [k9, k14, k18, k11]; exact frs c h1 h2
  · exact giv_fr giv (fun c => by rw [k9]) (by rw [k18]) (by rw [k18]) k10 k11 (fun p j _ => by rw [k5])
  · intro q hq; unfold hdOk hdC; rw [k13, k14, k9]; exact heads q hq
  · intro k o hk ho; rw [k1, k18]; exact ex k o hk ho
  · exact mom_fr mom k11 (fun p j _ => by rw [k5])
  · exact st_fr st (fun c => by rw [k9]) k10 k11 (fun p j _ => by rw [k5])
  · exact rk_fr rkk (fun c => by rw [k9]) k14 k10 k11 (fun p j _ => by rw [k5])
/-- what the class decides for a key: value, layer, rank -/
def dR (S : Mem) (nc ka ia kr ir : Nat) (L : List Nat) (k : Nat) : Int32 × Int32 × Int32 := match dkI S nc ka ia L k L.length with
  | none => (-1, -1, -1)
  | some j => bif decide (cWh S nc (dkA S ka ia L k j) = nI 100) then (-1, -1, -1) else (cWh S nc (dkA S ka ia L k j), nI j, S kr ir (ix (dkA S ka ia L k j)))
theorem dkI_fr {S T : Mem} {nc ka ia k n : Nat} {L : List Nat} (h : T ka = S ka) (h9 : T 9 = S 9) : dkI T nc ka ia L k n = dkI S nc ka ia L k n := by
  unfold dkI
  refine fstN_cong fun j _ => ?_
  unfold dkA cWh
  rw [h, h9]
theorem fo_at {S : Mem} {nc ka ia kr ir : Nat} {L : List Nat} (hka : ka ≠ 16 ∧ ka ≠ 15) (hkr : kr ≠ 16 ∧ kr ≠ 15) : ∀ n, n ≤ 6 → (∀ k, k < n → foM S nc ka ia kr ir L n 16 0 k = (dR S nc ka ia kr ir L k).1 ∧ ((dR S nc ka ia kr ir L k).1 ≠ -1 → foM S nc ka ia kr ir L n 16 1 k = (dR S nc ka ia kr ir L k).2.1 ∧ foM S nc ka ia kr ir L n 16 2 k = (dR S nc ka ia kr ir L k).2.2)) ∧ (∀ k, n ≤ k → k < 6 → foM S nc ka ia kr ir L n 16 0 k = -1)
  | 0, _ => by
    refine ⟨fun k hk => absurd hk (Nat.not_lt_zero _), fun k _ hk => ?_⟩
    show ogM S 16 0 k = -1
    have := ovl_in (f := S 16 0) (b := 0) (v := mone) hk
    rw [Nat.zero_add] at this
    exact this
  | n + 1, hn => by
    obtain ⟨ih1, ih2⟩ := fo_at hka hkr n (by omega) (S := S) (nc := nc) (ia := ia) (ir := ir) (L := L)
    have e0 : foM S nc ka ia kr ir L (n + 1) = dkM (foM S nc ka ia kr ir L n) nc ka ia kr ir L n := rfl
    have eka : foM S nc ka ia kr ir L n ka = S ka := funext fun b => foM_fr hka.1 hka.2 n
    have ekr : foM S nc ka ia kr ir L n kr = S kr := funext fun b => foM_fr hkr.1 hkr.2 n
    have e9 : foM S nc ka ia kr ir L n 9 = S 9 := funext fun b => foM_fr (by decide) (by decide) n
    have edk : dkI (foM S nc ka ia kr ir L n) nc ka ia L n L.length = dkI S nc ka ia L n L.length := dkI_fr eka e9
    have eda : ∀ j, dkA (foM S nc ka ia kr ir L n) ka ia L n j = dkA S ka ia L n j := fun j => by unfold dkA; rw [eka]
    have ewh : ∀ x, cWh (foM S nc ka ia kr ir L n) nc x = cWh S nc x := fun x => by unfold cWh; rw [e9]
    have key : (dR S nc ka ia kr ir L n = (-1, -1, -1) ∧ foM S nc ka ia kr ir L (n + 1) = foM S nc ka ia kr ir L n) ∨ (foM S nc ka ia kr ir L (n + 1) = uM (uM (uM (foM S nc ka ia kr ir L n) 16 0 n (dR S nc ka ia kr ir L n).1) 16 1 n (dR S nc ka ia kr ir L n).2.1) 16 2 n (dR S nc ka ia kr ir L n).2.2) := by
      rw [e0]
      unfold dkM dR
      rw [edk]
      cases hd : dkI S nc ka ia L n L.length with
      | none => exact Or.inl ⟨rfl, rfl⟩
      | some j =>
        dsimp only
        rw [eda, ewh, ekr]
        cases hb : decide (cWh S nc (dkA S ka ia L n j) = nI 100) with
        | true => exact Or.inl ⟨rfl, rfl⟩
        | false => exact Or.inr rfl
    rcases key with ⟨d1, d2⟩ | d2
    · rw [d2]
      refine ⟨fun k hk => ?_, fun k h1 h2 => ih2 k (by omega) h2⟩
      by_cases hkn : k = n
      · subst hkn
        rw [d1]
        exact ⟨ih2 k (Nat.le_refl k) (by omega), fun z => absurd rfl z⟩
      · exact ih1 k (by omega)
    · rw [d2]
      refine ⟨fun k hk => ?_, fun k h1 h2 => ?_⟩
      · by_cases hkn : k = n
        · subst hkn
          refine ⟨?_, fun _ => ⟨?_, ?_⟩⟩
          · rw [uM_n (fun z => absurd z.2.1 (by decide)), uM_n (fun z => absurd z.2.1 (by decide)), uM_s]
          · rw [uM_n (fun z => absurd z.2.1 (by decide)), uM_s]
          · rw [uM_s]
        · have hu : ∀ i, uM (uM (uM (foM S nc ka ia kr ir L n) 16 0 n (dR S nc ka ia kr ir L n).1) 16 1 n (dR S nc ka ia kr ir L n).2.1) 16 2 n (dR S nc ka ia kr ir L n).2.2 16 i k = foM S nc ka ia kr ir L n 16 i k := fun i => by
            rw [uM_n (fun z => hkn z.2.2), uM_n (fun z => hkn z.2.2), uM_n (fun z => hkn z.2.2)]
          rw [hu, hu, hu]
          exact ih1 k (by omega)
      · rw [uM_n (fun z => absurd z.2.1 (by decide)), uM_n (fun z => absurd z.2.1 (by decide)), uM_n (fun z => by omega)]
        exact ih2 k (by omega) h2
/-- hidden keys -/
theorem or_self32 (x y : Int32) : (x ||| y) ||| y = x ||| y := by
  apply Int32.toBitVec_inj.mp
  rw [Int32.toBitVec_or, Int32.toBitVec_or, BitVec.or_assoc, BitVec.or_self]
theorem or_zero32 (x : Int32) : x ||| nI 0 = x := by
  apply Int32.toBitVec_inj.mp
  rw [Int32.toBitVec_or]
  show x.toBitVec ||| 0#32 = _
  exact BitVec.or_zero
theorem hcol_or {S : Mem} {k : Nat} {h : Int32} : ∀ n, hcol S k h n = bif anyB (fun o => cntI (S 1 2 k) (nI o) && ylB S k o) n then wthI h (nI k) true else h
  | 0 => rfl
  | n + 1 => by
    unfold hcol anyB
    rw [hcol_or n]
    cases hx : (cntI (S 1 2 k) (nI n) && ylB S k n) with
    | false => rw [Bool.or_false, cond_false]
    | true =>
      rw [Bool.or_true, cond_true, cond_true]
      cases anyB (fun o => cntI (S 1 2 k) (nI o) && ylB S k o) n with
      | false => rfl
      | true => exact or_self32 _ _
def hidC (S : Mem) (k : Nat) : Bool := anyB (fun o => cntI (S 1 2 k) (nI o) && ylB S k o) 6
theorem hrow_or {S : Mem} : ∀ n, hrow S (nI 0) n = orN (hidC S) n
  | 0 => rfl
  | n + 1 => by
    unfold hrow orN
    rw [hcol_or, hrow_or n]
    show (bif hidC S n then wthI (orN (hidC S) n) (nI n) true else orN (hidC S) n) = _
    cases hidC S n with
    | true => rfl
    | false => rw [cond_false, cond_false, or_zero32]
theorem orN_cnt {f : Nat → Bool} {p : Nat} (hp : p < 6) : ∀ n, n ≤ 6 → cntI (orN f n) (nI p) = (decide (p < n) && f p)
  | 0, _ => by
    have : ∀ q, q < 8 → cntI (nI 0) (nI q) = false := by decide +kernel
    show cntI (nI 0) (nI p) = _
    rw [this p (by omega), decide_eq_false (Nat.not_lt_zero p), Bool.false_and]
  | n + 1, hn => by
    unfold orN
    have ih := orN_cnt (f := f) hp n (by omega)
    cases hf : f n with
    | false =>
      rw [cond_false, or_zero32, ih]
      by_cases h : p = n
      · rw [h, hf, Bool.and_false, Bool.and_false]
      · by_cases h2 : p < n
        · rw [decide_eq_true h2, decide_eq_true (show p < n + 1 by omega)]
        · rw [decide_eq_false h2, decide_eq_false (show ¬ p < n + 1 by omega)]
    | true =>
      show cntI (wthI (orN f n) (nI n) true) (nI p) = _
      rw [wth_cnt _ true (by omega) (by omega), ih]
      by_cases h : p = n
      · rw [if_pos h, h, hf, decide_eq_true (Nat.lt_succ_self n)]; rfl
      · rw [if_neg h]
        by_cases h2 : p < n
        · rw [decide_eq_true h2, decide_eq_true (show p < n + 1 by omega)]
        · rw [decide_eq_false h2, decide_eq_false (show ¬ p < n + 1 by omega)]
