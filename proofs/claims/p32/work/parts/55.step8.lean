/-! steps: runs, layerOf, due, dueAnew, hidden -/
theorem ouM_fr {S : Mem} {nc ka ia kr ir a b : Nat} {L : List Nat} (h : a ≠ 16) (h2 : a ≠ 15) : ouM S nc ka ia kr ir L a b = S a b := by
  unfold ouM uM
  rw [uS_n (fun z => h2 z.1), foM_fr h h2]
theorem ruM_fr {S : Mem} {nc i a b : Nat} (h : a ≠ 16) (h2 : a ≠ 15) : ruM S nc i a b = S a b := by
  unfold ruM
  cases cNear S nc i (clay S i) with
  | none => exact ouM_fr h h2
  | some j => exact ogM_fr h h2
theorem duM_fr {S : Mem} {nc i a b : Nat} (h : a ≠ 16) (h2 : a ≠ 15) : duM S nc i a b = S a b := ouM_fr h h2
theorem anM_fr2 {S : Mem} {n k i : Nat} (h : ¬ (k = 13 ∧ i = 1)) (h2 : ¬ (k = 14 ∧ i = 1)) : anM S n k i = S k i := by
  unfold anM
  rw [uS_n h, uS_n h2]
theorem daM_fr {S : Mem} {nc i a b : Nat} (h : a ≠ 16) (h2 : a ≠ 15) (h3 : ¬ (a = 13 ∧ b = 1)) (h4 : ¬ (a = 14 ∧ b = 1)) : daM S nc i a b = S a b := (ouM_fr h h2).trans (anM_fr2 h3 h4)
theorem look_18 {S T : Mem} {nc m g k : Nat} {tk : Bool} (h : T 18 = S 18) : rLook T nc m g tk k = rLook S nc m g tk k := by
  unfold rLook lkR lkI chI stopB mTop mTopI mOkI
  rw [h]
theorem hid_18 {S T : Mem} {nc m g k : Nat} {tk : Bool} (h : T 18 = S 18) : rHid T nc m g tk k = rHid S nc m g tk k := by
  unfold rHid
  rw [h, show (fun k => rLook T nc m g tk k) = (fun k => rLook S nc m g tk k) from funext fun k => look_18 h]
theorem halt_18 {S T : Mem} {m : Nat} (h : T 18 = S 18) : mHalt T m = mHalt S m := by unfold mHalt nhB; rw [h]
theorem runV_18 {S T : Mem} {nc m g k : Nat} (h : T 18 = S 18) : runV T nc m g k = runV S nc m g k := by unfold runV; rw [halt_18 h, hid_18 h, look_18 h]
theorem runL_18 {S T : Mem} {nc m g k : Nat} (h : T 18 = S 18) : runL T nc m g k = runL S nc m g k := by unfold runL; rw [halt_18 h, hid_18 h, look_18 h]
theorem dueV_18 {S T : Mem} {nc m g k : Nat} (h : T 18 = S 18) : dueV T nc m g k = dueV S nc m g k := by unfold dueV; rw [hid_18 h, look_18 h]
theorem vsh_og {S : Mem} {k : Nat} (hk : k < 6) : vsh (ogM S) k = -1 := by
  have e : ogM S 15 0 3 = nI 0 := by unfold ogM; exact uM_s
  have e2 : ogM S 16 0 k = -1 := by
    have := ovl_in (f := S 16 0) (b := 0) (v := mone) hk
    rw [Nat.zero_add] at this
    unfold ogM uM
    rw [uS_n (by decide), uS_s]
    exact this
  unfold vsh
  rw [e2]
  cases cntI (ogM S 15 0 3) (nI k) <;> rfl
theorem ru_eq {S : Mem} {ng nm nc t pa rk mo i k : Nat} (h : INV S ng nm nc t pa rk mo) (hi : i < nm) (hk : k < 6) : vsh (ruM S nc i) k = runV S nc i (grp S i) k ∧ loV (ruM S nc i) k = runL S nc i (grp S i) k := by
  have hnm := h.1.2.1.2
  have hh := halt_eq h hi
  have htk := h.2.2.2.2.2.2.2.1
  unfold ruM runV runL
  cases hn : cNear S nc i (clay S i) with
  | none =>
    rw [hn] at hh
    have hh2 : mHalt S i = false := hh.symm
    rw [hh2, cond_false, cond_false]
    exact (ou_vsh (P := fun _ => True) (tk := true) h hi (by decide) (by decide) (fun s k hs hk => (htk.1 i (by omega) s hs k hk).symm) (fun s k hs hk => by
      have hcs := csl_lt (i := i) (s := s) (by omega) hs
      show S 18 5 _ = -1 ∨ ∃ c, c < nc ∧ True ∧ S 18 5 _ = nI c
      rw [htk.1 i (by omega) s hs k hk]
      rcases tk_in h (i := i) (q := csl i s * 6 + k) (by omega) (by omega) with z | ⟨c, z1, z2⟩
      · exact Or.inl z
      · exact Or.inr ⟨c, z1, trivial, z2⟩) (fun c d hc hd _ _ => by
      obtain ⟨a, s', k', c1, c2, c3, c4, c5, c6, c7, c8, c9, c10, c11, c12, c13, c14⟩ := h.2.2.2.2.2.2.2.2.1 c hc
      obtain ⟨a', s2, k2, d1, d2, d3, d4, d5, d6, d7, d8, d9, d10, d11, d12, d13, d14⟩ := h.2.2.2.2.2.2.2.2.1 d hd
      rw [c14, d14])).2 k hk
  | some j =>
    rw [hn] at hh
    have hh2 : mHalt S i = true := hh.symm
    rw [hh2, cond_true, cond_true]
    refine ⟨vsh_og hk, ?_⟩
    unfold loV
    dsimp only
    rw [vsh_og hk]; rfl
theorem du_eq {S : Mem} {ng nm nc t pa rk mo i : Nat} (h : INV S ng nm nc t pa rk mo) (hi : i < nm) : duM S nc i 15 0 3 = orN (fun k => rHid S nc i (grp S i) false k) 6 ∧ ∀ k, k < 6 → vsh (duM S nc i) k = dueV S nc i (grp S i) k := by
  have hnm := h.1.2.1.2
  have hnc := h.1.2.2.1.2
  have := ou_vsh (P := fun _ => True) (tk := false) (ka := 13) (ia := 0) (kr := 14) (ir := 0) h hi (by decide) (by decide) (fun s k hs hk => (top_eq h (by omega) hs hk).symm) (fun s k hs hk => by
      show oI (mTop S nc i s k) = -1 ∨ ∃ c, c < nc ∧ True ∧ oI (mTop S nc i s k) = nI c
      cases ho : mTop S nc i s k with
      | none => exact Or.inl rfl
      | some c => exact Or.inr ⟨c, mTop_lt ho, trivial, rfl⟩) (fun c d hc hd _ _ => by
      obtain ⟨a, s', k', c1, c2, c3, c4, c5, c6, c7, c8, c9, c10, c11, c12, c13, c14⟩ := h.2.2.2.2.2.2.2.2.1 c hc
      obtain ⟨a', s2, k2, d1, d2, d3, d4, d5, d6, d7, d8, d9, d10, d11, d12, d13, d14⟩ := h.2.2.2.2.2.2.2.2.1 d hd
      rw [c14, d14])
  exact ⟨this.1, fun k hk => (this.2 k hk).1⟩
theorem bestN_ord {ok ok' : Nat → Bool} {rk rk' : Nat → Int32} : ∀ {n : Nat}, (∀ c, c < n → ok c = ok' c) → (∀ c d, c < n → d < n → ok' c = true → ok' d = true → (rk c < rk d ↔ rk' c < rk' d)) → bestN ok rk n = bestN ok' rk' n
  | 0, _, _ => rfl
  | n + 1, h1, h2 => by
    have ih := bestN_ord (n := n) (fun c hc => h1 c (by omega)) (fun c d hc hd => h2 c d (by omega) (by omega))
    show bstep ok rk n (bestN ok rk n) = bstep ok' rk' n (bestN ok' rk' n)
    rw [ih]
    unfold bstep
    rw [h1 n (Nat.lt_succ_self n)]
    cases hn : ok' n with
    | false => rw [Bool.false_and, Bool.false_and]
    | true =>
      cases hb : bestN ok' rk' n with
      | none => rfl
      | some c =>
        obtain ⟨b1, b2⟩ := bestN_lt hb
        have : decide (rk c < rk n) = decide (rk' c < rk' n) := decide_eq_decide.mpr (h2 c n (by omega) (by omega) b2 hn)
        dsimp only
        rw [this]
theorem anew_eq {S : Mem} {ng nm nc t pa rk mo q : Nat} (h : INV S ng nm nc t pa rk mo) (hq : q < 132) : hdA S nc q = S 13 0 q := by
  have hnc := h.1.2.2.1.2
  have hst := h.2.2.2.2.2.2.2.2.2.2.2.2.2.2.1
  have hrk := h.2.2.2.2.2.2.2.2.2.2.2.2.2.2.2
  have hb := hdG_best (ok := haB S) (cell := hdC S) (rk := fh S) (hdB_at (S := S) (h := 1) hq) (n := nc) hnc (fun c hc e => (held_pos h hc ((hst c hc).1.mpr e)).2)
  rw [h.2.2.2.2.2.2.2.2.2.2.2.1 q hq]
  refine hb.trans (congrArg oI (bestN_ord (fun c hc => ?_) (fun c d hc hd e1 e2 => ?_)))
  · have : haB S c = hdOk S c := by
      unfold hdOk
      rw [Bool.eq_iff_iff, decide_eq_true_iff]
      exact (hst c hc).1.symm
    rw [this]
  · have h1 := of_decide_eq_true (Bool.and_eq_true_iff.mp e1).1
    have h2 := of_decide_eq_true (Bool.and_eq_true_iff.mp e2).1
    exact (hrk.2.1 c d hc hd (hrk.2.2 c hc h1) (hrk.2.2 d hd h2)).symm
theorem INV_an {S : Mem} {ng nm nc t pa rk mo : Nat} (h : INV S ng nm nc t pa rk mo) : INV (anM S nc) ng nm nc t pa rk mo := INV_fr h (fun k i _ _ h3 h4 => anM_fr2 h3 h4)
theorem da_eq {S : Mem} {ng nm nc t pa rk mo i k : Nat} (h : INV S ng nm nc t pa rk mo) (hi : i < nm) (hk : k < 6) : vsh (daM S nc i) k = dueV S nc i (grp S i) k := by
  have hnm := h.1.2.1.2
  have hnc := h.1.2.2.1.2
  have h2 := INV_an h
  have hrk := h.2.2.2.2.2.2.2.2.2.2.2.2.2.2.2
  have e18 : anM S nc 18 = S 18 := funext fun b => anM_fr (by decide) (by decide)
  have eg : grp (anM S nc) i = grp S i := by unfold grp; rw [e18]
  have ecl : clay (anM S nc) i = clay S i := clay_fr (anM_fr (by decide) (by decide)) (anM_fr (by decide) (by decide))
  have e13 : ∀ q, q < 132 → anM S nc 13 1 q = S 13 0 q := fun q hq => by
    have : anM S nc 13 1 = hdA S nc := by unfold anM; exact uS_s
    rw [this]; exact anew_eq h hq
  have e14 : ∀ c, c < nc → anM S nc 14 1 c = fh S c := fun c hc => by
    have : anM S nc 14 1 = ovl (S 14 1) 0 nc (fh S) := by unfold anM; rw [uS_n (by decide), uS_s]
    rw [this]
    have := ovl_in (f := S 14 1) (b := 0) (v := fh S) hc
    rw [Nat.zero_add] at this
    exact this
  have etop : ∀ s k, s ≤ 10 → k < 6 → oI (mTop (anM S nc) nc i s k) = oI (mTop S nc i s k) := fun s k _ _ => by unfold mTop mTopI mOkI; rw [e18]
  have hv := ou_vsh (S := anM S nc) (P := fun c => S 9 c 4 = nI 1) (tk := false) (ka := 13) (ia := 1) (kr := 14) (ir := 1) h2 hi (by decide) (by decide) (fun s k hs hk => by
      have hcs := csl_lt (i := i) (s := s) (by omega) hs
      show anM S nc 13 1 _ = oI (mTop (anM S nc) nc i s k)
      rw [e13 _ (by omega), etop s k hs hk, top_eq h (by omega) hs hk]) (fun s k hs hk => by
      show oI (mTop (anM S nc) nc i s k) = -1 ∨ ∃ c, c < nc ∧ S 9 c 4 = nI 1 ∧ oI (mTop (anM S nc) nc i s k) = nI c
      rw [etop s k hs hk]
      cases ho : mTop S nc i s k with
      | none => exact Or.inl rfl
      | some c =>
        have hb := bestN_lt ho
        obtain ⟨a, s', k', c1, c2, c3, c4, c5, c6, c7, c8, c9, c10, c11, c12, c13, c14⟩ := h.2.2.2.2.2.2.2.2.1 c hb.1
        exact Or.inr ⟨c, hb.1, c13.trans (of_decide_eq_true (Bool.and_eq_true_iff.mp hb.2).1), rfl⟩) (fun c d hc hd p1 p2 => by
      obtain ⟨a, s', k', c1, c2, c3, c4, c5, c6, c7, c8, c9, c10, c11, c12, c13, c14⟩ := h.2.2.2.2.2.2.2.2.1 c hc
      obtain ⟨a', s2, k2, d1, d2, d3, d4, d5, d6, d7, d8, d9, d10, d11, d12, d13, d14⟩ := h.2.2.2.2.2.2.2.2.1 d hd
      rw [e14 c hc, e14 d hd, e18, ← c14, ← d14]
      exact (hrk.2.1 c d hc hd (hrk.2.2 c hc p1) (hrk.2.2 d hd p2)).symm)
  rw [ecl, eg] at hv
  show vsh (ouM (anM S nc) nc 13 1 14 1 (clay S i)) k = _
  rw [(hv.2 k hk).1, hid_18 e18, look_18 e18]; rfl
/-- a step that answers and changes only scratch -/
theorem step_s {S M : Mem} {ng nm nc t pa rk mo : Nat} {v v1 : Int32} (h : INV S ng nm nc t pa rk mo) (f : ∀ k i, k ≠ 15 → k ≠ 16 → ¬ (k = 13 ∧ i = 1) → ¬ (k = 14 ∧ i = 1) → M k i = S k i) (hv : v = v1) (a b d : Nat → Int32) : STEP 0 v t mo (v1, LK (uM (uM M 19 0 0 v) 17 0 0 (nI 0)) a b d) :=
  step_i (T2 := LK (uM (uM M 19 0 0 v) 17 0 0 (nI 0)) a b d) rfl hv (INV_LK (INV_th (INV_out (INV_fr h f) _) _) a b d) (by omega) (by omega)
