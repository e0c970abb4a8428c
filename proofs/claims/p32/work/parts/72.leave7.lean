/-! leaving: the step, whole -/
theorem vcn_eq {S C R R0 : Mem} {ng nm nc t pa rk mo p : Nat} (h : INV S ng nm nc t pa rk mo) (hp : p < 8) (r17 : ∀ j, j ≠ 0 → R0 17 0 j = S 17 0 j) (r18 : ∀ i, i ≠ 1 → R0 18 i = S 18 i) (he : ∀ c, c < nc → lS4 S c p (nI t) = rS4 S p c) : ∀ n, n ≤ nc → vcN (leS S p) p n = vCnt R0 p n
  | 0, _ => rfl
  | n + 1, hn => by
    have ih := vcn_eq (C := C) (R := R) h hp r17 r18 he n (by omega)
    obtain ⟨v1, v2, v3⟩ := vc_at (S := leS S p) (p := p) n
    obtain ⟨w1, w2, w3⟩ := vc_at (S := leS S p) (p := p) (n + 1)
    obtain ⟨m1, m2, m3⟩ := vm_at (S := R0) hp n
    obtain ⟨u1, u2, u3⟩ := vm_at (S := R0) hp (n + 1)
    have et : S 0 0 0 = nI t := h.1.2.2.2.1.1
    have l9 : leS S p 9 = S 9 := leS_k (by decide) (by decide)
    have l10 : leS S p 10 = S 10 := leS_k (by decide) (by decide)
    have e00 : leS S p 0 0 0 = nI t := (leS_0 (by decide)).trans et
    have c13 : S 9 n 4 = S 18 11 n := by
      obtain ⟨a, s, k, c1, c2, c3, c4, c5, c6, c7, c8, c9, c10, c11, c12, c13, c14⟩ := h.2.2.2.2.2.2.2.2.1 n (by omega)
      exact c13
    have elS : lS4 (leS S p) n p (nI t) = lS4 S n p (nI t) := by unfold lS4 lB5; rw [l9, l10]
    have ea : vcM (leS S p) p n 9 n 4 = S 9 n 4 := by rw [v1 n 4 (Nat.le_refl n), l9]
    have eb : vMem R0 p n 18 11 n = S 18 11 n := by rw [m1 n (Nat.le_refl n), r18 11 (by decide)]
    have ec : lL (vcM (leS S p) p n) n p (vcM (leS S p) p n 0 0 0) 9 n 4 = rS4 S p n := by
      have := (w2 n (Nat.lt_succ_self n)).1
      rw [e00, elS, he n (by omega)] at this
      exact this
    have ed : vStep (vMem R0 p n) p n 18 11 n = rS4 S p n := by
      have := (u3 n (Nat.lt_succ_self n)).1
      rw [(rS4_fr (r17 1 (by decide)) r18).1] at this
      exact this
    show vcN (leS S p) p n + _ = vCnt R0 p n + vCnt1 (vMem R0 p n) p n
    rw [ih]
    congr 1
    unfold lB vCnt1
    rw [ea, eb, ec, ed, c13]
theorem step_leave {S : Mem} {ng nm nc t pa rk mo : Nat} (h : INV S ng nm nc t pa rk mo) (hmo : mo + 1 < 2 ^ 20) (x : Int32) (b : Bool) : STEP (leC S x) (leV S (ix x) nc b) t mo (rLeave (uM (TT S (leC S x) (uM (leM S (ix x) nc nm b) 19 0 0 (leV S (ix x) nc b))) 17 0 0 (nI 0)) x b nm nc) := by
  have hnm := h.1.2.1.2
  unfold rLeave
  cases h1 : rgB x 8 with
  | false =>
    have e : leC S x = 1 := by unfold leC; rw [h1]; rfl
    rw [e]
    exact step_f h (by decide) uM_uM
  | true =>
    obtain ⟨p, hp, rfl⟩ := rgB_t h1
    have ip : ix (nI p) = p := ix_nI (by omega)
    rw [ip]
    have hle : decide (S 18 1 p ≤ 0) = decide (S 5 p 0 ≠ 0) := by
      rcases h.2.2.2.2.2.1 p hp with ⟨a1, a2, a3⟩ | ⟨a1, a2, a3⟩ | ⟨a1, a2, a3⟩ <;> rw [a1, a3] <;> decide
    by_cases hz : S 5 p 0 = 0
    · have e : leC S (nI p) = 2 := by unfold leC; rw [h1, ip, decide_eq_true hz]; rfl
      rw [e]
      show STEP 2 _ t mo (bif decide (S 18 1 p ≤ 0) then _ else fl (uM S 17 0 0 (nI 0)) 2)
      rw [hle, decide_eq_false (p := S 5 p 0 ≠ 0) (fun z => z hz), cond_false]
      exact step_f h (by decide) uM_uM
    · have e : leC S (nI p) = 0 := by unfold leC; rw [h1, ip, decide_eq_false hz]; rfl
      rw [e, cond_true]
      cases b with
      | false =>
        show STEP 0 (nI 0) t mo (bif decide (S 18 1 p ≤ 0) then (nI 0, uM (uM (uM (uM S 5 p 0 (nI 0)) 19 0 0 (nI 0)) 17 0 0 (nI 0)) 18 1 p (nI 1)) else _)
        rw [hle, decide_eq_true (p := S 5 p 0 ≠ 0) hz, cond_true]
        obtain ⟨ki, ri, cnt, duty, par, per, mach, tk, ch, frs, giv, heads, ex, mom, st, rkk⟩ := h
        have n5 : ∀ q j, j ≠ 0 → uM (uM (uM (uM S 5 p 0 (nI 0)) 19 0 0 (nI 0)) 17 0 0 (nI 0)) 18 1 p (nI 1) 5 q j = S 5 q j := fun q j hj => uM_n (S := S) (fun z => hj z.2.2)
        refine step_i (ng := ng) (nm := nm) (nc := nc) (t' := t) (pa := pa) (rk := rk) (mo' := mo) rfl rfl ⟨ki, ri, cnt, duty, par, fun q hq => ?_, mach, tk, ch, frs, giv_fr giv (fun _ => rfl) rfl rfl rfl rfl n5, heads, ex, mom_fr mom rfl n5, st_fr st (fun _ => rfl) rfl rfl n5, rk_fr rkk (fun _ => rfl) rfl rfl rfl n5⟩ (by omega) (by omega)
        have hper := per q hq
        by_cases hk : q = p
        · subst hk
          have h51 : S 5 q 1 = 0 := by
            rcases hper with ⟨b1, b2, b3⟩ | ⟨b1, b2, b3⟩ | ⟨b1, b2, b3⟩
            · exact b2
            · exact b2
            · exact absurd b1 hz
          exact Or.inr (Or.inl ⟨uM_s, (n5 q 1 (by decide)).trans h51, uM_s⟩)
        · have e50 : uM (uM (uM (uM S 5 p 0 (nI 0)) 19 0 0 (nI 0)) 17 0 0 (nI 0)) 18 1 p (nI 1) 5 q 0 = S 5 q 0 := uM_n (S := S) (fun z => hk z.2.1)
          have e18 : uM (uM (uM (uM S 5 p 0 (nI 0)) 19 0 0 (nI 0)) 17 0 0 (nI 0)) 18 1 p (nI 1) 18 1 q = S 18 1 q := uM_n (fun z => hk z.2.2)
          rw [e50, e18, n5 q 1 (by decide)]
          exact hper
      | true =>
        obtain ⟨C2, hC2⟩ : ∃ C2, C2 = fHM (vcM (leS S p) p nc) nc := ⟨_, rfl⟩
        have hM : leM S p nc nm true = cUnt C2 nc nm := by rw [hC2]; rfl
        have hV : leV S p nc true = nI (vcN (leS S p) p nc) := rfl
        rw [hM, hV]
        obtain ⟨v3⟩ : Nonempty (∀ k i j, ¬ (k = 9 ∧ (j = 4 ∨ j = 5)) → vcM (leS S p) p nc k i j = leS S p k i j) := ⟨(vc_at (S := leS S p) (p := p) nc).2.2⟩
        obtain ⟨u1, u2, u3⟩ := cUnt_at (S := C2) (nc := nc) nm
        have ck : ∀ k, k ≠ 0 → k ≠ 5 → k ≠ 9 → k ≠ 13 → C2 k = S k := fun k a b d e => by
          funext i j
          rw [hC2]
          show fHM _ nc k i j = _
          unfold fHM
          rw [uS_n (fun z => e z.1), v3 k i j (fun z => d z.1), leS_k a b]
        have c3 : ∀ k, k ≠ 6 → cUnt C2 nc nm k = C2 k := fun k hk => funext fun i => cUnt_fr hk nm
        obtain ⟨T, hT⟩ : ∃ T, T = uM (uM (cUnt C2 nc nm) 19 0 0 (nI (vcN (leS S p) p nc))) 17 0 0 (nI 0) := ⟨_, rfl⟩
        have hT2 : uM (TT S 0 (uM (cUnt C2 nc nm) 19 0 0 (nI (vcN (leS S p) p nc)))) 17 0 0 (nI 0) = T := by rw [hT]; rfl
        rw [hT2]
        have tk : ∀ a, a ≠ 17 → a ≠ 19 → T a = cUnt C2 nc nm a := fun a q1 q2 => by
          rw [hT]; funext i
          exact (uS_n (fun z => q1 z.1)).trans (uS_n (fun z => q2 z.1))
        have t18 : T 18 = S 18 := (tk 18 (by decide) (by decide)).trans ((c3 18 (by decide)).trans (ck 18 (by decide) (by decide) (by decide) (by decide)))
        have t17 : ∀ j, j ≠ 0 → T 17 0 j = S 17 0 j := fun j hj => by
          rw [hT, uM_n (fun z => hj z.2.2)]
          show cUnt C2 nc nm 17 0 j = _
          rw [c3 17 (by decide), ck 17 (by decide) (by decide) (by decide) (by decide)]
        rw [t18, hle, decide_eq_true (p := S 5 p 0 ≠ 0) hz, cond_true, cond_true]
        obtain ⟨R0, hR0⟩ : ∃ R0, R0 = uM T 18 1 p (nI 2) := ⟨_, rfl⟩
        rw [← hR0]
        have r17 : ∀ j, j ≠ 0 → R0 17 0 j = S 17 0 j := fun j hj => by rw [hR0]; exact t17 j hj
        have r18 : ∀ i, i ≠ 1 → R0 18 i = S 18 i := fun i hi => by rw [hR0, ← t18]; exact uS_n (fun z => hi z.2)
        have r1 : R0 18 1 = upd (S 18 1) p (nI 2) := by rw [hR0, ← t18]; exact uS_s
        have rlo : ∀ a, a ≠ 17 → a ≠ 18 → a ≠ 19 → R0 a = cUnt C2 nc nm a := fun a q1 q2 q3 => by
          rw [hR0]; funext i
          exact (uS_n (fun z => q2 z.1)).trans (congrFun (tk a q1 q3) i)
        obtain ⟨R1, hR1⟩ : ∃ R1, R1 = vMem R0 p nc := ⟨_, rfl⟩
        have hX : INV (mrg C2 R1) ng nm nc t pa rk (mo + 1) := INV_X h hp hmo hz hC2 hR1 r17 r18 r1 (fun a q0 q1 q2 q3 => by
          rw [rlo a q1 q2 q3, c3 a (by omega), ck a (by omega) (by omega) (by omega) (by omega)])
        have rfr : ∀ k i, ¬ vScr k i → R1 k i = R0 k i := fun k i hh => by rw [hR1]; exact vMem_fr hh nc
        have hvoid : rVoidM R0 p nc nm = uS R1 18 4 (vUnt R1 nm) := by rw [hR1]; rfl
        rw [hvoid]
        have hcount : vcN (leS S p) p nc = vCnt R0 p nc := vcn_eq (C := C2) (R := R1) h hp r17 r18 (fun c hc => by
          obtain ⟨a, s, k, c1, c2, c3', c4, c5, c6, c7, c8, c9, c10, c11, c12, c13, c14⟩ := hX.2.2.2.2.2.2.2.2.1 c hc
          have e1 : mrg C2 R1 9 c 4 = lS4 S c p (nI t) := by
            show C2 9 c 4 = _
            rw [hC2]
            show vcM (leS S p) p nc 9 c 4 = _
            rw [((vc_at (S := leS S p) (p := p) nc).2.1 c hc).1, leS_0 (by decide), h.1.2.2.2.1.1]
            unfold lS4 lB5
            rw [leS_k (S := S) (p := p) (k := 9) (by decide) (by decide), leS_k (S := S) (p := p) (k := 10) (by decide) (by decide)]
          have e2 : mrg C2 R1 18 11 c = rS4 S p c := by
            show R1 18 11 c = _
            rw [hR1, ((vm_at (S := R0) hp nc).2.2 c hc).1]
            exact (rS4_fr (r17 1 (by decide)) r18).1
          rw [← e1, ← e2]; exact c13) nc (Nat.le_refl nc)
        have low : ∀ a, a ≠ 17 → a ≠ 18 → a ≠ 19 → uS R1 18 4 (vUnt R1 nm) a = cUnt C2 nc nm a := fun a q1 q2 q3 => by
          funext i
          rw [uS_n (fun z => q2 z.1), rfr a i (by unfold vScr; omega), rlo a q1 q2 q3]
        have fin : INV (uS R1 18 4 (vUnt R1 nm)) ng nm nc t pa rk (mo + 1) := by
          refine INV_free hX (fun a i q6 q18 => ?_) (fun i j hj => ?_) (fun i hi => ?_)
          · by_cases hlt : a < 17
            · rw [low a (by omega) (by omega) (by omega), c3 a q6]
              exact (congrFun (show mrg C2 R1 a = C2 a from if_pos hlt) i).symm
            · rw [uS_n q18]
              exact (congrFun (show mrg C2 R1 a = R1 a from if_neg hlt) i).symm
          · rw [low 6 (by decide) (by decide) (by decide), u1 6 i j (by omega)]; rfl
          · rw [low 6 (by decide) (by decide) (by decide), uS_s]
            unfold vUnt
            rcases Nat.lt_or_ge i nm with hlt | hge
            · have := ovl_in (f := R1 18 4) (b := 0) (v := fun m => bif mHalt R1 m then R1 17 0 1 else R1 18 4 m) hlt
              rw [Nat.zero_add] at this
              rw [this, u3 i hlt]
              have hh : (cNear C2 nc i (clay C2 i)).isSome = mHalt R1 i := halt_eq hX hlt
              have e1 : C2 0 0 0 = R1 17 0 1 := (show C2 0 0 0 = nI t from hX.1.2.2.2.1.1).trans (show R1 17 0 1 = nI t from hX.2.1.2.2.2.1.1).symm
              have e2 : C2 6 i 2 = R1 18 4 i := (hX.2.2.2.2.2.2.1 i hi).2
              rw [hh, e1, e2]
            · rw [ovl_out (by omega), u2 i hge]
              exact (hX.2.2.2.2.2.2.1 i hi).2
        refine step_i (T2 := uS R1 18 4 (vUnt R1 nm)) ?_ (by rw [hcount]) fin (by omega) (by omega)
        rw [uS_n (by decide), rfr 17 0 (by unfold vScr; omega), hR0, uM_n (fun z => absurd z.1 (by decide)), hT]
        exact uM_s
