/-! the law: leaves -/
section L6
variable {l : Launch} {D : va_G} {ad : Nat → Nat → Nat} {ca : Nat → ClassId} {SR : List (String × Nat × String)}
theorem RI_p {S T : Mem} {ng nm nc t pa : Nat} (h : RI S ng nm nc t pa) (h17 : T 17 = S 17) (h2 : T 18 2 = S 18 2) (h3 : T 18 3 = S 18 3) (h5 : T 18 5 = S 18 5) : RI T ng nm nc t pa := by
  unfold RI TK grp at h ⊢
  rw [h17, h2, h3, h5]
  exact h
theorem vGiv_cg {A P : Mem} {p c : Nat} (h : ∀ k, k ≠ 22 → A k = P k) : ∀ k, k ≠ 22 → vGiv A p c k = vGiv P p c k := by
  have z17 := h 17 (by decide)
  have z18 := h 18 (by decide)
  unfold vGiv
  have e : (decide (A 18 13 (8 * c + p) = nI 1) && decide (A 17 0 1 - A 18 14 (8 * c + p) < nI 30)) = (decide (P 18 13 (8 * c + p) = nI 1) && decide (P 17 0 1 - P 18 14 (8 * c + p) < nI 30)) := by rw [z17, z18]
  rw [e]
  cases (decide (P 18 13 (8 * c + p) = nI 1) && decide (P 17 0 1 - P 18 14 (8 * c + p) < nI 30)) with
  | true => exact uM_cg (by decide) h rfl
  | false => exact h
theorem vSt2_cg {A P : Mem} {c : Nat} {b : Bool} (h : ∀ k, k ≠ 22 → A k = P k) : ∀ k, k ≠ 22 → vSt2 A c b k = vSt2 P c b k := by
  have z18 := h 18 (by decide)
  have e : mGood A c = mGood P c := by unfold mGood; rw [z18]
  unfold vSt2
  rw [e]
  cases (b && decide (mGood P c < 2)) with
  | true => exact uM_cg (by decide) h rfl
  | false => exact h
theorem vSt3_cg {A P : Mem} {p c : Nat} (h : ∀ k, k ≠ 22 → A k = P k) : ∀ k, k ≠ 22 → vSt3 A p c k = vSt3 P p c k := by
  have z17 := h 17 (by decide)
  have z18 := h 18 (by decide)
  unfold vSt3
  have e : (decide (A 18 6 c = nI p) && decide (A 17 0 1 - A 18 9 c < nI 30)) = (decide (P 18 6 c = nI p) && decide (P 17 0 1 - P 18 9 c < nI 30)) := by rw [z17, z18]
  rw [e]
  cases (decide (P 18 6 c = nI p) && decide (P 17 0 1 - P 18 9 c < nI 30)) with
  | true => exact uM_cg (by decide) h rfl
  | false => exact h
theorem vStep_cg {A P : Mem} {p c : Nat} (h : ∀ k, k ≠ 22 → A k = P k) : ∀ k, k ≠ 22 → vStep A p c k = vStep P p c k := by
  unfold vStep
  rw [h 18 (by decide)]
  exact vSt3_cg (vSt2_cg (vGiv_cg h))
theorem neg_le {d : Nat} (h : d + 1 < 2 ^ 30) : -(nI (d + 1)) ≤ (0 : Int32) := by
  have h0 : nI 0 - nI (d + 1) = -(nI (d + 1)) := by
    apply Int32.toBitVec_inj.mp
    rw [Int32.toBitVec_sub, Int32.toBitVec_neg]
    exact BitVec.zero_sub _
  rw [i32_le, ← h0, pk_sub_toInt (by decide) h, zt0]
  omega
/-- the state behind a leaving -/
def lvS (st : Nat) (au few : Bool) : Nat := bif au then 3 else bif decide (st = 1) && few then 2 else st
theorem vStep_st {A A1 : Mem} {p c st : Nat} {au few : Bool} (hst : A 18 11 c = nI st) (hst4 : st < 4) (hA : ∀ k, k ≠ 22 → A1 k = vGiv A p c k) (h11 : A1 18 11 c = nI st) (hau : (decide (A1 18 6 c = nI p) && decide (A1 17 0 1 - A1 18 9 c < nI 30)) = au) (hfew : decide (mGood A1 c < 2) = few) : (∀ k, k ≠ 22 → stC A1 c (lvS st au few) k = vStep A p c k) ∧ vStep A p c 18 11 c = nI (lvS st au few) := by
  have hh : decide (A 18 11 c = nI 1) = decide (st = 1) := by rw [hst]; exact decide_eq_decide.mpr (nI_eq (by omega) (by decide))
  have e1 : ∀ k, k ≠ 22 → vStep A p c k = vSt3 (vSt2 A1 c (decide (st = 1))) p c k := fun k hk => by
    unfold vStep
    rw [hh]
    exact (vSt3_cg (vSt2_cg hA) k hk).symm
  have key : ∀ k, k ≠ 22 → vSt3 (vSt2 A1 c (decide (st = 1))) p c k = uM A1 18 11 c (nI (lvS st au few)) k := by
    intro k hk
    have e2 : ∀ i, i ≠ 11 → vSt2 A1 c (decide (st = 1)) 18 i = A1 18 i := fun i hi => by
      unfold vSt2
      cases (decide (st = 1) && decide (mGood A1 c < 2)) with
      | true => exact uM_k (fun z => hi z.2)
      | false => rfl
    have e3 : vSt2 A1 c (decide (st = 1)) 17 = A1 17 := by
      unfold vSt2
      cases (decide (st = 1) && decide (mGood A1 c < 2)) with
      | true => exact funext fun i => uM_k (fun z => absurd z.1 (by decide))
      | false => rfl
    unfold vSt3
    rw [e2 6 (by decide), e2 9 (by decide), e3, hau]
    unfold vSt2 lvS
    rw [hfew]
    cases au with
    | true =>
      rw [cond_true, cond_true]
      cases (decide (st = 1) && few) with
      | true => rw [cond_true, uM_uM]
      | false => rfl
    | false =>
      rw [cond_false, cond_false]
      cases (decide (st = 1) && few) with
      | true => rfl
      | false =>
        rw [cond_false, cond_false, ← h11, uM_self]
  have e4 : ∀ k, k ≠ 22 → stC A1 c (lvS st au few) k = uM A1 18 11 c (nI (lvS st au few)) k := fun k hk => uM_22 hk
  refine ⟨fun k hk => by rw [e4 k hk, e1 k hk, key k hk], ?_⟩
  rw [e1 18 (by decide), key 18 (by decide), uM_s]

theorem un_gh {V : Mem} {b : Bool} {j : Nat} {x : Int32} (hx : x = bif mHalt V j then nI 0 else V 22 1 (7 + j)) : ∀ k, k ≠ 17 → k ≠ 18 → k ≠ 19 → unA V b (j + 1) k = uM (unA V b j) 22 1 (7 + j) x k := by
  intro k z17 z18 z19
  funext i
  by_cases z : k = 22 ∧ i = 1
  · obtain ⟨rfl, rfl⟩ := z
    rw [uM_ks]
    unfold unA
    rw [uS_s, uS_s, hx, nuF_s]
  · rw [uM_k z]
    unfold unA
    rw [uS_n z, uS_n z, uS_n (fun y => z18 y.1), uS_n (fun y => z18 y.1)]
theorem c_L_leaves (S : Mem) (ng nm nc t pa rk : Nat) (hL : LR S ng nm nc t pa rk) (hR : RI S ng nm nc t pa) (p : Nat) (hp : p < 5) (b : Bool) (hH : b = false → LH S nm t) : CI l yL_leaves cL_leaves 12 (some .int) { frames := 1, cells := 0, slots := 0, locals := 24 } D ad CNT ca SR (SH ad ca S) [.int (nI p), .int (bI (b)), .ref (ad 22 0), .ref (ad 22 1), .ref (ad 22 2), .ref (ad 22 3), .ref (ad 22 4), .ref (ad 22 5)] (fun r E' => (S 18 1 p ≠ 0 ∧ r = -3 ∧ E' = SH ad ca S) ∨ (S 18 1 p = 0 ∧ ∃ A', r = (bif b then nI (vCnt (uM S 18 1 p (nI 2)) p nc) else nI 0) ∧ E' = SH ad ca A' ∧ (∀ k, k ≠ 22 → A' k = (bif b then rVoidM (uM S 18 1 p (nI 2)) p nc nm else uM S 18 1 p (nI 1)) k) ∧ LR A' ng nm nc t pa rk)) := by
  have hL0 := hL
  obtain ⟨⟨⟨q0, q1, q2, q3, q4, q5⟩, hng1, hng4, hnm3, hnc12, ht20, hrk20, hpa12⟩, hD, hG, hN, hT, hZ, hC, hCz, hA, hGa, hE⟩ := hL
  obtain ⟨g1, g2, g3⟩ := hG p hp
  refine CI.of _ RL (by decide +kernel) rfl (Nat.le_of_ble_eq_true rfl) ?_
  intro p9 e9 s9 m9 a9 b9 me9 c9 A9 hB hr hnm9
  -- machines that are stopped are free
  have free : ∀ (V : Mem) (x : Nat), LR V ng nm nc t pa rk → RI V ng nm nc t pa → (b = false → LH V nm t) → S 18 1 p = 0 → nI x = (bif b then nI (vCnt (uM S 18 1 p (nI 2)) p nc) else nI 0) → (∀ k, k ≠ 22 → unA V b nm k = (bif b then rVoidM (uM S 18 1 p (nI 2)) p nc nm else uM S 18 1 p (nI 1)) k) → ∀ (n j : Nat), nm - j < n → j ≤ nm → G p9 l e9 { frames := 1, cells := 0, slots := 0, locals := 24 } s9 m9 a9 b9 me9 c9 D ad A9 12 (MQ b9 (va_Qi (fun r E' => (S 18 1 p ≠ 0 ∧ r = -3 ∧ E' = SH ad ca S) ∨ (S 18 1 p = 0 ∧ ∃ A', r = (bif b then nI (vCnt (uM S 18 1 p (nI 2)) p nc) else nI 0) ∧ E' = SH ad ca A' ∧ (∀ k, k ≠ 22 → A' k = (bif b then rVoidM (uM S 18 1 p (nI 2)) p nc nm else uM S 18 1 p (nI 1)) k) ∧ LR A' ng nm nc t pa rk)) (fun E' t => WW D ad CNT A9 E' t.heap) A9) a9 s9 0 0 A9) 0 0 CNT (SH ad ca (unA V b j)) 221 [(0, .int (nI p)), (1, .int (bI (b))), (2, .ref (ad 22 0)), (3, .ref (ad 22 1)), (4, .ref (ad 22 2)), (5, .ref (ad 22 3)), (6, .ref (ad 22 4)), (7, .ref (ad 22 5)), (8, .int (nI x)), (9, .int (nI j))] [] := by
    intro V x hLV hRV hHV hs0 hx hfin n
    induction n with
    | zero => intro j y1; omega
    | succ n ih =>
      intro j y1 y2
      have hLu := LR_unA hLV hRV y2 hHV
      have hRu : RI (unA V b j) ng nm nc t pa := unA_RI hRV
      obtain ⟨⟨⟨-, -, -, u3, -⟩, -⟩, -⟩ := id hLu
      have e1 : unA V b j 22 1 (7 + j) = V 22 1 (7 + j) := (congrFun (show unA V b j 22 1 = nuF V j from uS_s) _).trans nuF_at
      rcases Nat.lt_or_ge j nm with hj | hj
      · refine g_iload hB 9 dL_leaves_221 rfl ?_
        refine g_aload_n hB 2 dL_leaves_223 rfl rfl ?_
        refine g_iconst hB (nI 3) dL_leaves_224 rfl ?_
        refine g_iald hB 22 0 3 (n := 12) (by decide) rfl (by first | assumption | omega) (Nat.le_of_ble_eq_true rfl) dL_leaves_225 ?_
        refine g_top (nI (nm)) (u3) ?_
        refine n_icmp_ge hB j nm 265 dL_leaves_226 (by decide) (by omega) (by omega) (fun c_226 => ?_) (fun c_226 => ?_)
        · exact absurd c_226 (by omega)
        · refine g_aload_n hB 3 dL_leaves_229 rfl rfl ?_
          refine g_bipush hB (nI 7) dL_leaves_230 rfl ?_
          refine g_iload hB 9 dL_leaves_232 rfl ?_
          refine g_iadd hB dL_leaves_234 ?_
          refine g_top (nI (7 + j)) (nI_add _ _) ?_
          refine g_iload hB 9 dL_leaves_235 rfl ?_
          refine g_aload hB 4 dL_leaves_237 rfl ?_
          refine g_aload hB 5 dL_leaves_239 rfl ?_
          refine g_callSI hB (c_L_stopped _ ng nm nc t pa rk hLu hRu j hj) k_L_61 yk_L_stopped ⟨Nat.le_of_ble_eq_true rfl, Nat.le_of_ble_eq_true rfl⟩ rfl (Nat.le_of_ble_eq_true rfl) ⟨Nat.le_of_ble_eq_true rfl, Nat.le_of_ble_eq_true rfl⟩ dL_leaves_241 ?_
          rintro _ _ ⟨rfl, rfl⟩
          refine b_if_eq hB (mHalt (unA V b j) j) 251 dL_leaves_244 (by decide) (fun c_244 => ?_) (fun c_244 => ?_)
          · have hx2 : V 22 1 (7 + j) = bif mHalt V j then nI 0 else V 22 1 (7 + j) := by rw [unA_halt] at c_244; rw [c_244]; rfl
            refine g_aload_n hB 3 dL_leaves_251 rfl rfl ?_
            refine g_bipush hB (nI 7) dL_leaves_252 rfl ?_
            refine g_iload hB 9 dL_leaves_254 rfl ?_
            refine g_iadd hB dL_leaves_256 ?_
            refine g_top (nI (7 + j)) (nI_add _ _) ?_
            refine g_iald hB 22 1 (7 + j) (n := 10) (by decide) rfl (by first | assumption | omega) (Nat.le_of_ble_eq_true rfl) dL_leaves_257 ?_
            refine g_top ((V 22 1 (7 + j))) (e1) ?_
            refine s_iast hB 22 1 (7 + j) (n := 10) (by decide) (fun _ => rfl) (by first | assumption | omega) (Nat.le_of_ble_eq_true rfl) dL_leaves_258 ?_
            refine g_iinc hB (nI (j + 1)) dL_leaves_259 rfl (nI_1 _) (by decide) ?_
            refine g_goto hB 221 dL_leaves_262 (by decide) ?_
            refine g_gh (unA V b (j + 1)) (un_gh hx2) ?_
            exact g_sub _ rfl (ih (j + 1) (by omega) (by omega))
          · have hx2 : nI 0 = bif mHalt V j then nI 0 else V 22 1 (7 + j) := by rw [unA_halt] at c_244; rw [c_244]; rfl
            refine g_iconst hB (nI 0) dL_leaves_247 rfl ?_
            refine g_goto hB 258 dL_leaves_248 (by decide) ?_
            refine s_iast hB 22 1 (7 + j) (n := 10) (by decide) (fun _ => rfl) (by first | assumption | omega) (Nat.le_of_ble_eq_true rfl) dL_leaves_258 ?_
            refine g_iinc hB (nI (j + 1)) dL_leaves_259 rfl (nI_1 _) (by decide) ?_
            refine g_goto hB 221 dL_leaves_262 (by decide) ?_
            refine g_gh (unA V b (j + 1)) (un_gh hx2) ?_
            exact g_sub _ rfl (ih (j + 1) (by omega) (by omega))
      · have hjn : j = nm := by omega
        subst hjn
        refine g_iload hB 9 dL_leaves_221 rfl ?_
        refine g_aload_n hB 2 dL_leaves_223 rfl rfl ?_
        refine g_iconst hB (nI 3) dL_leaves_224 rfl ?_
        refine g_iald hB 22 0 3 (n := 12) (by decide) rfl (by first | assumption | omega) (Nat.le_of_ble_eq_true rfl) dL_leaves_225 ?_
        refine g_top (nI (j)) (u3) ?_
        refine n_icmp_ge hB j j 265 dL_leaves_226 (by decide) (by omega) (by omega) (fun c_226 => ?_) (fun c_226 => ?_)
        · refine g_iload hB 8 dL_leaves_265 rfl ?_
          exact g_iret hB hr rfl (Nat.le_of_ble_eq_true rfl) (Nat.le_of_ble_eq_true rfl) (Or.inr ⟨hs0, _, hx, rfl, hfin, hLu⟩) dL_leaves_267
        · exact absurd c_226 (by omega)
  have un0 : ∀ V : Mem, unA V b 0 = V := fun V => by
    have z1 : vuF V b 0 = V 18 4 := by
      cases b with
      | true =>
        show ovl (V 18 4) 0 0 (fun m => bif mHalt V m then V 17 0 1 else V 18 4 m) = V 18 4
        exact ovl_0
      | false => rfl
    unfold unA
    rw [z1, nuF_0, uS_self, uS_self]
  cases b with
  | false =>
    have hLG := fun hs0 : S 18 1 p = 0 => LR_goA (b := false) hL0 hp hs0
    have go18 : ∀ i, i ≠ 1 → goA S p false 18 i = S 18 i := fun i hi => by unfold goA; rw [uM_k (by omega), uM_k (by omega), uM_k (by omega)]
    have go17 : goA S p false 17 = S 17 := funext fun i => by unfold goA; rw [uM_k (by omega), uM_k (by omega), uM_k (by omega)]
    have hRG : RI (goA S p false) ng nm nc t pa := RI_p hR go17 (go18 2 (by decide)) (go18 3 (by decide)) (go18 5 (by decide))
    have hHG : LH (goA S p false) nm t := fun m hm hh => by
      rw [go18 4 (by decide)]
      refine hH rfl m hm ?_
      rw [← hh]
      unfold mHalt nhB
      rw [go18 5 (by decide), go18 11 (by decide)]
    have hfin : ∀ k, k ≠ 22 → unA (goA S p false) false nm k = uM S 18 1 p (nI 1) k := fun k hk => by
      have z1 : unA (goA S p false) false nm k = uS (goA S p false) 18 4 (goA S p false 18 4) k := funext fun i => uS_n (fun y => hk y.1)
      rw [z1, uS_self]
      unfold goA
      rw [uM_22 hk, uM_22 hk]; rfl
    have go : S 18 1 p = 0 → G p9 l e9 { frames := 1, cells := 0, slots := 0, locals := 24 } s9 m9 a9 b9 me9 c9 D ad A9 12 (MQ b9 (va_Qi (fun r E' => (S 18 1 p ≠ 0 ∧ r = -3 ∧ E' = SH ad ca S) ∨ (S 18 1 p = 0 ∧ ∃ A', r = (bif false then nI (vCnt (uM S 18 1 p (nI 2)) p nc) else nI 0) ∧ E' = SH ad ca A' ∧ (∀ k, k ≠ 22 → A' k = (bif false then rVoidM (uM S 18 1 p (nI 2)) p nc nm else uM S 18 1 p (nI 1)) k) ∧ LR A' ng nm nc t pa rk)) (fun E' t => WW D ad CNT A9 E' t.heap) A9) a9 s9 0 0 A9) 0 0 CNT (SH ad ca (goA S p false)) 43 [(0, .int (nI p)), (1, .int (bI (false))), (2, .ref (ad 22 0)), (3, .ref (ad 22 1)), (4, .ref (ad 22 2)), (5, .ref (ad 22 3)), (6, .ref (ad 22 4)), (7, .ref (ad 22 5))] [] := by
      intro hs0
      have q4' : goA S p false 22 0 4 = nI nc := (hLG hs0).1.1.2.2.2.2.1
      refine g_iconst hB (nI 0) dL_leaves_43 rfl ?_
      refine g_istore hB 8 dL_leaves_44 (by decide) ?_
      refine g_iconst hB (nI 0) dL_leaves_46 rfl ?_
      refine g_istore hB 9 dL_leaves_47 (by decide) ?_
      refine g_iload hB 9 dL_leaves_49 rfl ?_
      refine g_aload_n hB 2 dL_leaves_51 rfl rfl ?_
      refine g_iconst hB (nI 4) dL_leaves_52 rfl ?_
      refine g_iald hB 22 0 4 (n := 12) (by decide) rfl (by first | assumption | omega) (Nat.le_of_ble_eq_true rfl) dL_leaves_53 ?_
      refine g_top (nI (nc)) (q4') ?_
      refine n_icmp_ge hB 0 nc 218 dL_leaves_54 (by decide) (by omega) (by omega) (fun c_54 => ?_) (fun c_54 => ?_)
      · refine g_iconst hB (nI 0) dL_leaves_218 rfl ?_
        refine g_istore hB 9 dL_leaves_219 (by decide) ?_
        refine s_eq _ (un0 _).symm (g_sub _ rfl (free (goA S p false) 0 (hLG hs0) hRG (fun _ => hHG) hs0 rfl hfin (nm + 1) 0 (by omega) (by omega)))
      · refine g_iload_n hB 1 dL_leaves_57 rfl rfl ?_
        refine b_if_eq hB (false) 218 dL_leaves_58 (by decide) (fun c_58 => ?_) (fun c_58 => ?_)
        · refine g_iconst hB (nI 0) dL_leaves_218 rfl ?_
          refine g_istore hB 9 dL_leaves_219 (by decide) ?_
          refine s_eq _ (un0 _).symm (g_sub _ rfl (free (goA S p false) 0 (hLG hs0) hRG (fun _ => hHG) hs0 rfl hfin (nm + 1) 0 (by omega) (by omega)))
        · cases c_58
    refine g_aload_n hB 2 dL_leaves_0 rfl rfl ?_
    refine g_bipush hB (nI 10) dL_leaves_1 rfl ?_
    refine g_iald hB 22 0 10 (n := 12) (by decide) rfl (by first | assumption | omega) (Nat.le_of_ble_eq_true rfl) dL_leaves_3 ?_
    refine g_iload_n hB 0 dL_leaves_4 rfl rfl ?_
    refine g_ishr hB dL_leaves_5 ?_
    refine g_iconst hB (nI 1) dL_leaves_6 rfl ?_
    refine g_iand hB dL_leaves_7 ?_
    refine g_iconst hB (nI 1) dL_leaves_8 rfl ?_
    refine g_icmp_ne hB 15 dL_leaves_9 (by decide) (fun c_9 => ?_) (fun c_9 => ?_)
    · have hs0 : S 18 1 p = 0 := by
        have : cntI (S 22 0 10) (nI p) = false := by rw [cnt_bit]; exact decide_eq_false c_9
        rw [g2] at this
        exact Decidable.not_not.mp (of_decide_eq_false this)
      refine g_aload_n hB 2 dL_leaves_15 rfl rfl ?_
      refine g_bipush hB (nI 10) dL_leaves_16 rfl ?_
      refine g_dup2 hB rfl rfl dL_leaves_18 ?_
      refine g_iald hB 22 0 10 (n := 12) (by decide) rfl (by first | assumption | omega) (Nat.le_of_ble_eq_true rfl) dL_leaves_19 ?_
      refine g_iconst hB (nI 1) dL_leaves_20 rfl ?_
      refine g_iload_n hB 0 dL_leaves_21 rfl rfl ?_
      refine g_ishl hB dL_leaves_22 ?_
      refine g_ior hB dL_leaves_23 ?_
      refine s_iast hB 22 0 10 (n := 12) (by decide) (fun _ => rfl) (by first | assumption | omega) (Nat.le_of_ble_eq_true rfl) dL_leaves_24 ?_
      refine g_aload_n hB 2 dL_leaves_25 rfl rfl ?_
      refine g_bipush hB (nI 11) dL_leaves_26 rfl ?_
      refine g_dup2 hB rfl rfl dL_leaves_28 ?_
      refine g_iald hB 22 0 11 (n := 12) (by decide) rfl (by first | assumption | omega) (Nat.le_of_ble_eq_true rfl) dL_leaves_29 ?_
      refine g_top ((S 22 0 11)) (uM_n (by omega)) ?_
      refine g_iload_n hB 1 dL_leaves_30 rfl rfl ?_
      refine b_if_eq hB (false) 40 dL_leaves_31 (by decide) (fun c_31 => ?_) (fun c_31 => ?_)
      · refine g_iconst hB (nI 0) dL_leaves_40 rfl ?_
        refine g_ior hB dL_leaves_41 ?_
        refine s_iast hB 22 0 11 (n := 12) (by decide) (fun _ => rfl) (by first | assumption | omega) (Nat.le_of_ble_eq_true rfl) dL_leaves_42 ?_
        refine g_gh (goA S p false) (gh_u (by decide) (by decide) (by decide) (gh_u (by decide) (by decide) (by decide) (gh_g (Or.inr (Or.inl rfl))))) ?_
        exact g_sub _ rfl (go hs0)
      · cases c_31
    · have hs0 : S 18 1 p ≠ 0 := by
        have : cntI (S 22 0 10) (nI p) = true := by rw [cnt_bit]; exact decide_eq_true c_9
        rw [g2] at this
        exact of_decide_eq_true this
      refine g_bipush hB (-3) dL_leaves_12 rfl ?_
      exact g_iret hB hr rfl (Nat.le_of_ble_eq_true rfl) (Nat.le_of_ble_eq_true rfl) (Or.inl ⟨hs0, rfl, rfl⟩) dL_leaves_14
  | true =>
    have hLG := fun hs0 : S 18 1 p = 0 => LR_goA (b := true) hL0 hp hs0
    obtain ⟨S1, hS1⟩ : ∃ S1, S1 = uM S 18 1 p (nI 2) := ⟨_, rfl⟩
    have s18 : ∀ i, i ≠ 1 → S1 18 i = S 18 i := fun i hi => by rw [hS1, uM_k (by omega)]
    have s17 : S1 17 = S 17 := funext fun i => by rw [hS1, uM_k (by omega)]
    have loop : S 18 1 p = 0 → ∀ (n j : Nat) (A : Mem), nc - j < n → j ≤ nc → (∀ k, k ≠ 22 → A k = vMem S1 p j k) → LR A ng nm nc t pa rk → G p9 l e9 { frames := 1, cells := 0, slots := 0, locals := 24 } s9 m9 a9 b9 me9 c9 D ad A9 12 (MQ b9 (va_Qi (fun r E' => (S 18 1 p ≠ 0 ∧ r = -3 ∧ E' = SH ad ca S) ∨ (S 18 1 p = 0 ∧ ∃ A', r = (bif true then nI (vCnt (uM S 18 1 p (nI 2)) p nc) else nI 0) ∧ E' = SH ad ca A' ∧ (∀ k, k ≠ 22 → A' k = (bif true then rVoidM (uM S 18 1 p (nI 2)) p nc nm else uM S 18 1 p (nI 1)) k) ∧ LR A' ng nm nc t pa rk)) (fun E' t => WW D ad CNT A9 E' t.heap) A9) a9 s9 0 0 A9) 0 0 CNT (SH ad ca (A)) 49 [(0, .int (nI p)), (1, .int (bI (true))), (2, .ref (ad 22 0)), (3, .ref (ad 22 1)), (4, .ref (ad 22 2)), (5, .ref (ad 22 3)), (6, .ref (ad 22 4)), (7, .ref (ad 22 5)), (8, .int (nI (vCnt S1 p j))), (9, .int (nI j))] [] := by
      intro hs0 n
      induction n with
      | zero => intro j A y1; omega
      | succ n ih =>
        intro j A y1 y2 hAj hLA
        have a17 : A 17 = S 17 := (hAj 17 (by decide)).trans ((funext fun i => vMem_fr (by unfold vScr; omega) j).trans s17)
        have a18 : ∀ i, i ≠ 1 → i ≠ 13 → i ≠ 11 → A 18 i = S 18 i := fun i i1 i13 i11 => by
          rw [hAj 18 (by decide), vMem_fr (by unfold vScr; omega) j, s18 i i1]
        have hRA : RI A ng nm nc t pa := RI_p hR a17 (a18 2 (by decide) (by decide) (by decide)) (a18 3 (by decide) (by decide) (by decide)) (a18 5 (by decide) (by decide) (by decide))
        have e171 : A 17 0 1 = nI t := by rw [a17]; exact hR.2.2.2.1.1
        have hLA0 := hLA
        obtain ⟨⟨⟨q0', q1', q2', q3', q4', q5'⟩, -⟩, -, -, -, -, -, hC', -, hA', hGa', -⟩ := hLA
        have hcn : vCnt S1 p j ≤ j := by
          have hh : ∀ n, vCnt S1 p n ≤ n := fun n => by
            induction n with
            | zero => exact Nat.le_refl _
            | succ n ih =>
              show vCnt S1 p n + vCnt1 (vMem S1 p n) p n ≤ n + 1
              unfold vCnt1
              cases (decide (vMem S1 p n 18 11 n = nI 1) && decide (vStep (vMem S1 p n) p n 18 11 n ≠ nI 1)) with
              | true => show _ + 1 ≤ _; omega
              | false => show _ + 0 ≤ _; omega
          exact hh j
        rcases Nat.lt_or_ge j nc with hj | hj
        · obtain ⟨p', k', w, st, -, -, -, -, -, f6, -, -, -, -, -, -, f7, f8, -⟩ := hC' j hj
          obtain ⟨a0, d0, ha0, hd0, x1, x2, x3, x4⟩ := hGa' j hj
          have last : ∀ A1 : Mem, (∀ k, k ≠ 22 → A1 k = vGiv A p j k) → LR A1 ng nm nc t pa rk → A1 22 3 = A 22 3 → A1 22 5 = A 22 5 → A1 22 0 = A 22 0 → ∀ v : Int32, G p9 l e9 { frames := 1, cells := 0, slots := 0, locals := 24 } s9 m9 a9 b9 me9 c9 D ad A9 12 (MQ b9 (va_Qi (fun r E' => (S 18 1 p ≠ 0 ∧ r = -3 ∧ E' = SH ad ca S) ∨ (S 18 1 p = 0 ∧ ∃ A', r = (bif true then nI (vCnt (uM S 18 1 p (nI 2)) p nc) else nI 0) ∧ E' = SH ad ca A' ∧ (∀ k, k ≠ 22 → A' k = (bif true then rVoidM (uM S 18 1 p (nI 2)) p nc nm else uM S 18 1 p (nI 1)) k) ∧ LR A' ng nm nc t pa rk)) (fun E' t => WW D ad CNT A9 E' t.heap) A9) a9 s9 0 0 A9) 0 0 CNT (SH ad ca (A1)) 118 [(0, .int (nI p)), (1, .int (bI (true))), (2, .ref (ad 22 0)), (3, .ref (ad 22 1)), (4, .ref (ad 22 2)), (5, .ref (ad 22 3)), (6, .ref (ad 22 4)), (7, .ref (ad 22 5)), (8, .int (nI (vCnt S1 p j))), (9, .int (nI j)), (10, .int (nI st)), (11, .int (v))] [] := by
            intro A1 hA1 hLA1 z3 z5 z0 v
            have gk : ∀ k i, k ≠ 22 → ¬ (k = 18 ∧ i = 13) → A1 k i = A k i := fun k i hk hh => by
              rw [hA1 k hk]
              unfold vGiv
              cases (decide (A 18 13 (8 * j + p) = nI 1) && decide (A 17 0 1 - A 18 14 (8 * j + p) < nI 30)) with
              | true => exact uM_k hh
              | false => rfl
            obtain ⟨au, hau⟩ : ∃ au, au = (decide (a0 = p) && decide (t - d0 < 30)) := ⟨_, rfl⟩
            obtain ⟨few, hfew⟩ : ∃ few, few = decide (mGood A1 j < 2) := ⟨_, rfl⟩
            have hau2 : (decide (A1 18 6 j = nI p) && decide (A1 17 0 1 - A1 18 9 j < nI 30)) = au := by
              rw [gk 18 6 (by decide) (by omega), gk 17 0 (by decide) (by omega), gk 18 9 (by decide) (by omega), x2, x4, e171, pk_sub hd0, hau]
              rw [decide_eq_decide.mpr (show nI a0 = nI p ↔ a0 = p from nI_eq (by omega) (by omega)), decide_eq_decide.mpr (show nI (t - d0) < nI 30 ↔ t - d0 < 30 from nI_ltI (by omega) (by decide))]
            have h11 : A1 18 11 j = nI st := by rw [gk 18 11 (by decide) (by omega)]; exact f8
            obtain ⟨w1, w2⟩ := vStep_st (A := A) (A1 := A1) (p := p) (c := j) (st := st) f8 f6 hA1 h11 hau2 hfew.symm
            obtain ⟨s2, hs2⟩ : ∃ s2, s2 = lvS st au few := ⟨_, rfl⟩
            have hs24 : s2 < 4 ∧ (s2 = 1 → st = 1) ∧ (st = 1 → 1 ≤ s2) := by
              rw [hs2]
              unfold lvS
              cases au with
              | true => exact ⟨(by decide : 3 < 4), fun z => absurd (show (3 : Nat) = 1 from z) (by decide), fun _ => (by decide : 1 ≤ 3)⟩
              | false =>
                rw [cond_false]
                cases hq : (decide (st = 1) && few) with
                | true => exact ⟨(by decide : 2 < 4), fun z => absurd (show (2 : Nat) = 1 from z) (by decide), fun _ => (by decide : 1 ≤ 2)⟩
                | false => exact ⟨f6, fun z => z, fun z => by show 1 ≤ st; omega⟩
            rw [← hs2] at w1 w2
            have hst1 : s2 = 1 → A1 18 11 j = nI 1 := fun z => by rw [h11, hs24.2.1 z]
            have hLn := LR_stC hLA1 hj hs24.1 hst1
            have hv1 : vCnt S1 p (j + 1) = vCnt S1 p j + (if st = 1 ∧ 1 < s2 then 1 else 0) := by
              show vCnt S1 p j + vCnt1 (vMem S1 p j) p j = _
              have hP : ∀ k, k ≠ 22 → vMem S1 p j k = A k := fun k hk => (hAj k hk).symm
              unfold vCnt1
              rw [hP 18 (by decide), f8, vStep_cg hP 18 (by decide), w2]
              rw [decide_eq_decide.mpr (show nI st = nI 1 ↔ st = 1 from nI_eq (by omega) (by decide)), decide_eq_decide.mpr (show nI s2 ≠ nI 1 ↔ s2 ≠ 1 from by rw [ne_eq, nI_eq (by omega) (by decide)])]
              by_cases z1 : st = 1
              · by_cases z2 : 1 < s2
                · rw [if_pos ⟨z1, z2⟩, decide_eq_true z1, decide_eq_true (show s2 ≠ 1 by omega)]; rfl
                · rw [if_neg (fun z => z2 z.2), decide_eq_true z1, decide_eq_false (p := s2 ≠ 1) (fun z => by have := hs24.2.2 z1; omega)]; rfl
              · rw [if_neg (fun z => z1 z.1), decide_eq_false z1]; rfl
            have hih := ih (j + 1) (stC A1 j s2) (by omega) (by omega) (fun k hk => by
              rw [w1 k hk]
              exact vStep_cg hAj k hk) hLn
            rw [hv1] at hih
            have store : G p9 l e9 { frames := 1, cells := 0, slots := 0, locals := 24 } s9 m9 a9 b9 me9 c9 D ad A9 12 (MQ b9 (va_Qi (fun r E' => (S 18 1 p ≠ 0 ∧ r = -3 ∧ E' = SH ad ca S) ∨ (S 18 1 p = 0 ∧ ∃ A', r = (bif true then nI (vCnt (uM S 18 1 p (nI 2)) p nc) else nI 0) ∧ E' = SH ad ca A' ∧ (∀ k, k ≠ 22 → A' k = (bif true then rVoidM (uM S 18 1 p (nI 2)) p nc nm else uM S 18 1 p (nI 1)) k) ∧ LR A' ng nm nc t pa rk)) (fun E' t => WW D ad CNT A9 E' t.heap) A9) a9 s9 0 0 A9) 0 0 CNT (SH ad ca (A1)) 182 [(0, .int (nI p)), (1, .int (bI (true))), (2, .ref (ad 22 0)), (3, .ref (ad 22 1)), (4, .ref (ad 22 2)), (5, .ref (ad 22 3)), (6, .ref (ad 22 4)), (7, .ref (ad 22 5)), (8, .int (nI (vCnt S1 p j))), (9, .int (nI j)), (10, .int (nI st)), (11, .int (v))] [.int (nI s2), .int (nI (5 * j + 3)), .ref (ad 22 3)] := by
              refine s_iast hB 22 3 (5 * j + 3) (n := 60) (by decide) (fun _ => rfl) (by first | assumption | omega) (Nat.le_of_ble_eq_true rfl) dL_leaves_182 ?_
              refine g_gh (stC A1 j s2) (gh_u (by decide) (by decide) (by decide) (gh_g (Or.inr (Or.inl rfl)))) ?_
              refine g_iload hB 8 dL_leaves_183 rfl ?_
              refine g_iload hB 10 dL_leaves_185 rfl ?_
              refine g_iconst hB (nI 1) dL_leaves_187 rfl ?_
              refine n_icmp_ne hB st 1 208 dL_leaves_188 (by decide) (by omega) (by omega) (fun c_188 => ?_) (fun c_188 => ?_)
              · have d_188 : decide (st = 1) = false := decide_eq_false c_188
                rw [if_neg (fun z => c_188 z.1)] at hih
                refine g_iconst hB (nI 0) dL_leaves_208 rfl ?_
                refine g_iadd hB dL_leaves_209 ?_
                refine g_top (nI (vCnt S1 p j + 0)) (nI_add _ _) ?_
                refine g_istore hB 8 dL_leaves_210 (by decide) ?_
                refine g_iinc hB (nI (j + 1)) dL_leaves_212 rfl (nI_1 _) (by decide) ?_
                refine g_goto hB 49 dL_leaves_215 (by decide) ?_
                exact g_sub _ rfl hih
              · have d_188 : decide (st = 1) = true := decide_eq_true c_188
                refine g_aload hB 5 dL_leaves_191 rfl ?_
                refine g_iconst hB (nI 5) dL_leaves_193 rfl ?_
                refine g_iload hB 9 dL_leaves_194 rfl ?_
                refine g_imul hB dL_leaves_196 ?_
                refine g_top (nI (5 * j)) (pk_mul _ _) ?_
                refine g_iconst hB (nI 3) dL_leaves_197 rfl ?_
                refine g_iadd hB dL_leaves_198 ?_
                refine g_top (nI (5 * j + 3)) (nI_add _ _) ?_
                refine g_iald hB 22 3 (5 * j + 3) (n := 60) (by decide) rfl (by first | assumption | omega) (Nat.le_of_ble_eq_true rfl) dL_leaves_199 ?_
                refine g_top (nI (s2)) (uM_s) ?_
                refine g_iconst hB (nI 1) dL_leaves_200 rfl ?_
                refine n_icmp_le hB s2 1 208 dL_leaves_201 (by decide) (by omega) (by omega) (fun c_201 => ?_) (fun c_201 => ?_)
                · rw [if_neg (fun z => by omega)] at hih
                  refine g_iconst hB (nI 0) dL_leaves_208 rfl ?_
                  refine g_iadd hB dL_leaves_209 ?_
                  refine g_top (nI (vCnt S1 p j + 0)) (nI_add _ _) ?_
                  refine g_istore hB 8 dL_leaves_210 (by decide) ?_
                  refine g_iinc hB (nI (j + 1)) dL_leaves_212 rfl (nI_1 _) (by decide) ?_
                  refine g_goto hB 49 dL_leaves_215 (by decide) ?_
                  exact g_sub _ rfl hih
                · rw [if_pos ⟨c_188, c_201⟩] at hih
                  refine g_iconst hB (nI 1) dL_leaves_204 rfl ?_
                  refine g_goto hB 209 dL_leaves_205 (by decide) ?_
                  refine g_iadd hB dL_leaves_209 ?_
                  refine g_top (nI (vCnt S1 p j + 1)) (nI_add _ _) ?_
                  refine g_istore hB 8 dL_leaves_210 (by decide) ?_
                  refine g_iinc hB (nI (j + 1)) dL_leaves_212 rfl (nI_1 _) (by decide) ?_
                  refine g_goto hB 49 dL_leaves_215 (by decide) ?_
                  exact g_sub _ rfl hih
            have hg5 : cntB (fun p_1 => decide (0 < A1 22 4 (5 * j + p_1))) 5 = mGood A1 j := (good_5 hLA1 (by omega)).symm
            have hle8 : mGood A1 j ≤ 8 := cntB_le _ 8
            have z0' : ∀ i, A1 22 0 i = A 22 0 i := fun i => congrFun z0 i
            have z5' : ∀ i, A1 22 5 i = A 22 5 i := fun i => congrFun z5 i
            refine g_aload hB 5 dL_leaves_118 rfl ?_
            refine g_iconst hB (nI 5) dL_leaves_120 rfl ?_
            refine g_iload hB 9 dL_leaves_121 rfl ?_
            refine g_imul hB dL_leaves_123 ?_
            refine g_top (nI (5 * j)) (pk_mul _ _) ?_
            refine g_iconst hB (nI 3) dL_leaves_124 rfl ?_
            refine g_iadd hB dL_leaves_125 ?_
            refine g_top (nI (5 * j + 3)) (nI_add _ _) ?_
            refine g_aload hB 7 dL_leaves_126 rfl ?_
            refine g_iconst hB (nI 2) dL_leaves_128 rfl ?_
            refine g_iload hB 9 dL_leaves_129 rfl ?_
            refine g_imul hB dL_leaves_131 ?_
            refine g_top (nI (2 * j)) (pk_mul _ _) ?_
            refine g_iald hB 22 5 (2 * j) (n := 24) (by decide) rfl (by first | assumption | omega) (Nat.le_of_ble_eq_true rfl) dL_leaves_132 ?_
            refine g_top (nI (a0)) ((z5' _).trans x1) ?_
            refine g_iload_n hB 0 dL_leaves_133 rfl rfl ?_
            refine n_icmp_ne hB a0 p 159 dL_leaves_134 (by decide) (by omega) (by omega) (fun c_134 => ?_) (fun c_134 => ?_)
            · have d_134 : decide (a0 = p) = false := decide_eq_false c_134
              have hauf : au = false := by rw [hau, decide_eq_false c_134]; rfl
              refine g_iload hB 10 dL_leaves_159 rfl ?_
              refine g_iconst hB (nI 1) dL_leaves_161 rfl ?_
              refine n_icmp_ne hB st 1 180 dL_leaves_162 (by decide) (by omega) (by omega) (fun c_162 => ?_) (fun c_162 => ?_)
              · have d_162 : decide (st = 1) = false := decide_eq_false c_162
                have hs3 : s2 = st := by rw [hs2, hauf]; unfold lvS; rw [decide_eq_false c_162]; rfl
                refine g_iload hB 10 dL_leaves_180 rfl ?_
                rw [hs3] at store
                exact g_sub _ rfl store
              · have d_162 : decide (st = 1) = true := decide_eq_true c_162
                refine g_iload hB 9 dL_leaves_165 rfl ?_
                refine g_aload hB 6 dL_leaves_167 rfl ?_
                refine g_callSI hB (c_L_good _ j (by omega)) k_L_119 yk_L_good ⟨Nat.le_of_ble_eq_true rfl, Nat.le_of_ble_eq_true rfl⟩ rfl (Nat.le_of_ble_eq_true rfl) ⟨Nat.le_of_ble_eq_true rfl, Nat.le_of_ble_eq_true rfl⟩ dL_leaves_169 ?_
                rintro _ _ ⟨rfl, rfl⟩
                refine g_top (nI (mGood A1 j)) (by rw [hg5]) ?_
                refine g_iconst hB (nI 2) dL_leaves_172 rfl ?_
                refine n_icmp_ge hB (mGood A1 j) 2 180 dL_leaves_173 (by decide) (by omega) (by omega) (fun c_173 => ?_) (fun c_173 => ?_)
                · have hs3 : s2 = st := by rw [hs2, hauf, hfew, decide_eq_false (show ¬ mGood A1 j < 2 by omega)]; unfold lvS; rw [Bool.and_false]; rfl
                  refine g_iload hB 10 dL_leaves_180 rfl ?_
                  rw [hs3] at store
                  exact g_sub _ rfl store
                · have hs3 : s2 = 2 := by rw [hs2, hauf, hfew, decide_eq_true (show mGood A1 j < 2 by omega)]; unfold lvS; rw [decide_eq_true c_162]; rfl
                  refine g_iconst hB (nI 2) dL_leaves_176 rfl ?_
                  refine g_goto hB 182 dL_leaves_177 (by decide) ?_
                  rw [hs3] at store
                  exact g_sub _ rfl store
            · have d_134 : decide (a0 = p) = true := decide_eq_true c_134
              refine g_aload_n hB 2 dL_leaves_137 rfl rfl ?_
              refine g_iconst hB (nI 0) dL_leaves_138 rfl ?_
              refine g_iald hB 22 0 0 (n := 12) (by decide) rfl (by first | assumption | omega) (Nat.le_of_ble_eq_true rfl) dL_leaves_139 ?_
              refine g_top (nI (t)) ((z0' _).trans q0') ?_
              refine g_aload hB 7 dL_leaves_140 rfl ?_
              refine g_iconst hB (nI 2) dL_leaves_142 rfl ?_
              refine g_iload hB 9 dL_leaves_143 rfl ?_
              refine g_imul hB dL_leaves_145 ?_
              refine g_top (nI (2 * j)) (pk_mul _ _) ?_
              refine g_iconst hB (nI 1) dL_leaves_146 rfl ?_
              refine g_iadd hB dL_leaves_147 ?_
              refine g_top (nI (2 * j + 1)) (nI_add _ _) ?_
              refine g_iald hB 22 5 (2 * j + 1) (n := 24) (by decide) rfl (by first | assumption | omega) (Nat.le_of_ble_eq_true rfl) dL_leaves_148 ?_
              refine g_top (nI (d0)) ((z5' _).trans x3) ?_
              refine g_isub hB dL_leaves_149 ?_
              refine g_top (nI (t - d0)) (pk_sub hd0) ?_
              refine g_bipush hB (nI 29) dL_leaves_150 rfl ?_
              refine n_icmp_gt hB (t - d0) 29 159 dL_leaves_152 (by decide) (by omega) (by omega) (fun c_152 => ?_) (fun c_152 => ?_)
              · have hauf : au = false := by rw [hau, decide_eq_false (show ¬ t - d0 < 30 by omega), Bool.and_false]
                refine g_iload hB 10 dL_leaves_159 rfl ?_
                refine g_iconst hB (nI 1) dL_leaves_161 rfl ?_
                refine n_icmp_ne hB st 1 180 dL_leaves_162 (by decide) (by omega) (by omega) (fun c_162 => ?_) (fun c_162 => ?_)
                · have d_162 : decide (st = 1) = false := decide_eq_false c_162
                  have hs3 : s2 = st := by rw [hs2, hauf]; unfold lvS; rw [decide_eq_false c_162]; rfl
                  refine g_iload hB 10 dL_leaves_180 rfl ?_
                  rw [hs3] at store
                  exact g_sub _ rfl store
                · have d_162 : decide (st = 1) = true := decide_eq_true c_162
                  refine g_iload hB 9 dL_leaves_165 rfl ?_
                  refine g_aload hB 6 dL_leaves_167 rfl ?_
                  refine g_callSI hB (c_L_good _ j (by omega)) k_L_119 yk_L_good ⟨Nat.le_of_ble_eq_true rfl, Nat.le_of_ble_eq_true rfl⟩ rfl (Nat.le_of_ble_eq_true rfl) ⟨Nat.le_of_ble_eq_true rfl, Nat.le_of_ble_eq_true rfl⟩ dL_leaves_169 ?_
                  rintro _ _ ⟨rfl, rfl⟩
                  refine g_top (nI (mGood A1 j)) (by rw [hg5]) ?_
                  refine g_iconst hB (nI 2) dL_leaves_172 rfl ?_
                  refine n_icmp_ge hB (mGood A1 j) 2 180 dL_leaves_173 (by decide) (by omega) (by omega) (fun c_173 => ?_) (fun c_173 => ?_)
                  · have hs3 : s2 = st := by rw [hs2, hauf, hfew, decide_eq_false (show ¬ mGood A1 j < 2 by omega)]; unfold lvS; rw [Bool.and_false]; rfl
                    refine g_iload hB 10 dL_leaves_180 rfl ?_
                    rw [hs3] at store
                    exact g_sub _ rfl store
                  · have hs3 : s2 = 2 := by rw [hs2, hauf, hfew, decide_eq_true (show mGood A1 j < 2 by omega)]; unfold lvS; rw [decide_eq_true c_162]; rfl
                    refine g_iconst hB (nI 2) dL_leaves_176 rfl ?_
                    refine g_goto hB 182 dL_leaves_177 (by decide) ?_
                    rw [hs3] at store
                    exact g_sub _ rfl store
              · have hs3 : s2 = 3 := by rw [hs2, hau, decide_eq_true c_134, decide_eq_true (show t - d0 < 30 by omega)]; rfl
                refine g_iconst hB (nI 3) dL_leaves_155 rfl ?_
                refine g_goto hB 182 dL_leaves_156 (by decide) ?_
                rw [hs3] at store
                exact g_sub _ rfl store
          rcases (hA' j (by omega)).1 p hp with ⟨v1, d, v2, v3, v4⟩ | ⟨v1, v2⟩
          · refine g_iload hB 9 dL_leaves_49 rfl ?_
            refine g_aload_n hB 2 dL_leaves_51 rfl rfl ?_
            refine g_iconst hB (nI 4) dL_leaves_52 rfl ?_
            refine g_iald hB 22 0 4 (n := 12) (by decide) rfl (by first | assumption | omega) (Nat.le_of_ble_eq_true rfl) dL_leaves_53 ?_
            refine g_top (nI (nc)) (q4') ?_
            refine n_icmp_ge hB j nc 218 dL_leaves_54 (by decide) (by omega) (by omega) (fun c_54 => ?_) (fun c_54 => ?_)
            · exact absurd c_54 (by omega)
            · refine g_iload_n hB 1 dL_leaves_57 rfl rfl ?_
              refine b_if_eq hB (true) 218 dL_leaves_58 (by decide) (fun c_58 => ?_) (fun c_58 => ?_)
              · cases c_58
              · refine g_aload hB 5 dL_leaves_61 rfl ?_
                refine g_iconst hB (nI 5) dL_leaves_63 rfl ?_
                refine g_iload hB 9 dL_leaves_64 rfl ?_
                refine g_imul hB dL_leaves_66 ?_
                refine g_top (nI (5 * j)) (pk_mul _ _) ?_
                refine g_iconst hB (nI 3) dL_leaves_67 rfl ?_
                refine g_iadd hB dL_leaves_68 ?_
                refine g_top (nI (5 * j + 3)) (nI_add _ _) ?_
                refine g_iald hB 22 3 (5 * j + 3) (n := 60) (by decide) rfl (by first | assumption | omega) (Nat.le_of_ble_eq_true rfl) dL_leaves_69 ?_
                refine g_top (nI (st)) (f7) ?_
                refine g_istore hB 10 dL_leaves_70 (by decide) ?_
                refine g_aload hB 6 dL_leaves_72 rfl ?_
                refine g_iconst hB (nI 5) dL_leaves_74 rfl ?_
                refine g_iload hB 9 dL_leaves_75 rfl ?_
                refine g_imul hB dL_leaves_77 ?_
                refine g_top (nI (5 * j)) (pk_mul _ _) ?_
                refine g_iload_n hB 0 dL_leaves_78 rfl rfl ?_
                refine g_iadd hB dL_leaves_79 ?_
                refine g_top (nI (5 * j + p)) (nI_add _ _) ?_
                refine g_iald hB 22 4 (5 * j + p) (n := 60) (by decide) rfl (by first | assumption | omega) (Nat.le_of_ble_eq_true rfl) dL_leaves_80 ?_
                refine g_top (nI (d + 1)) (v4) ?_
                refine g_istore hB 11 dL_leaves_81 (by decide) ?_
                refine g_aload hB 6 dL_leaves_83 rfl ?_
                refine g_iconst hB (nI 5) dL_leaves_85 rfl ?_
                refine g_iload hB 9 dL_leaves_86 rfl ?_
                refine g_imul hB dL_leaves_88 ?_
                refine g_top (nI (5 * j)) (pk_mul _ _) ?_
                refine g_iload_n hB 0 dL_leaves_89 rfl rfl ?_
                refine g_iadd hB dL_leaves_90 ?_
                refine g_top (nI (5 * j + p)) (nI_add _ _) ?_
                refine g_iload hB 11 dL_leaves_91 rfl ?_
                refine g_if_le hB 115 dL_leaves_93 (by decide) (fun c_93 => ?_) (fun c_93 => ?_)
                · exact absurd c_93 (pos_S (by omega))
                · refine g_aload_n hB 2 dL_leaves_96 rfl rfl ?_
                  refine g_iconst hB (nI 0) dL_leaves_97 rfl ?_
                  refine g_iald hB 22 0 0 (n := 12) (by decide) rfl (by first | assumption | omega) (Nat.le_of_ble_eq_true rfl) dL_leaves_98 ?_
                  refine g_top (nI (t)) (q0') ?_
                  refine g_iconst hB (nI 1) dL_leaves_99 rfl ?_
                  refine g_iadd hB dL_leaves_100 ?_
                  refine g_top (nI (t + 1)) (nI_add _ _) ?_
                  refine g_iload hB 11 dL_leaves_101 rfl ?_
                  refine g_isub hB dL_leaves_103 ?_
                  refine g_top (nI (t - d)) ((pk_sub (show d + 1 ≤ t + 1 by omega)).trans (congrArg nI (show t + 1 - (d + 1) = t - d by omega))) ?_
                  refine g_bipush hB (nI 29) dL_leaves_104 rfl ?_
                  refine n_icmp_gt hB (t - d) 29 115 dL_leaves_106 (by decide) (by omega) (by omega) (fun c_106 => ?_) (fun c_106 => ?_)
                  · refine g_iload hB 11 dL_leaves_115 rfl ?_
                    refine s_iast hB 22 4 (5 * j + p) (n := 60) (by decide) (fun _ => rfl) (by first | assumption | omega) (Nat.le_of_ble_eq_true rfl) dL_leaves_117 ?_
                    have hgv : vGiv A p j = A := by unfold vGiv; rw [v3, e171, pk_sub v2, decide_eq_false (p := nI (t - d) < nI 30) (fun z => by have := (nI_ltI (by omega) (by decide)).mp z; omega), Bool.and_false]; rfl
                    refine s_eq A (by rw [← v4, uM_self]) (g_sub _ rfl (last A (fun k _ => by rw [hgv]) hLA0 rfl rfl rfl (nI (d + 1))))
                  · refine g_iload hB 11 dL_leaves_109 rfl ?_
                    refine g_ineg hB dL_leaves_111 ?_
                    refine g_goto hB 117 dL_leaves_112 (by decide) ?_
                    refine s_iast hB 22 4 (5 * j + p) (n := 60) (by decide) (fun _ => rfl) (by first | assumption | omega) (Nat.le_of_ble_eq_true rfl) dL_leaves_117 ?_
                    have hgv : vGiv A p j = uM A 18 13 (8 * j + p) (nI 2) := by unfold vGiv; rw [v1, v3, e171, pk_sub v2, decide_eq_true (p := nI (t - d) < nI 30) ((nI_ltI (by omega) (by decide)).mpr (by omega)), decide_eq_true (p := nI 1 = nI 1) rfl]; rfl
                    have hneg : -(nI (d + 1)) ≤ (0 : Int32) := neg_le (by omega)
                    refine g_gh (gvA A p j (-(nI (d + 1)))) (gh_u (by decide) (by decide) (by decide) (gh_g (Or.inr (Or.inl rfl)))) ?_
                    exact g_sub _ rfl (last _ (fun k hk => by rw [hgv]; exact uM_22 hk) (LR_gvA hLA0 hp (by omega) hneg) (by unfold gvA; rw [uM_k (by omega), uM_k (by omega)]) (by unfold gvA; rw [uM_k (by omega), uM_k (by omega)]) (by unfold gvA; rw [uM_k (by omega), uM_k (by omega)]) (nI (d + 1)))
          · refine g_iload hB 9 dL_leaves_49 rfl ?_
            refine g_aload_n hB 2 dL_leaves_51 rfl rfl ?_
            refine g_iconst hB (nI 4) dL_leaves_52 rfl ?_
            refine g_iald hB 22 0 4 (n := 12) (by decide) rfl (by first | assumption | omega) (Nat.le_of_ble_eq_true rfl) dL_leaves_53 ?_
            refine g_top (nI (nc)) (q4') ?_
            refine n_icmp_ge hB j nc 218 dL_leaves_54 (by decide) (by omega) (by omega) (fun c_54 => ?_) (fun c_54 => ?_)
            · exact absurd c_54 (by omega)
            · refine g_iload_n hB 1 dL_leaves_57 rfl rfl ?_
              refine b_if_eq hB (true) 218 dL_leaves_58 (by decide) (fun c_58 => ?_) (fun c_58 => ?_)
              · cases c_58
              · refine g_aload hB 5 dL_leaves_61 rfl ?_
                refine g_iconst hB (nI 5) dL_leaves_63 rfl ?_
                refine g_iload hB 9 dL_leaves_64 rfl ?_
                refine g_imul hB dL_leaves_66 ?_
                refine g_top (nI (5 * j)) (pk_mul _ _) ?_
                refine g_iconst hB (nI 3) dL_leaves_67 rfl ?_
                refine g_iadd hB dL_leaves_68 ?_
                refine g_top (nI (5 * j + 3)) (nI_add _ _) ?_
                refine g_iald hB 22 3 (5 * j + 3) (n := 60) (by decide) rfl (by first | assumption | omega) (Nat.le_of_ble_eq_true rfl) dL_leaves_69 ?_
                refine g_top (nI (st)) (f7) ?_
                refine g_istore hB 10 dL_leaves_70 (by decide) ?_
                refine g_aload hB 6 dL_leaves_72 rfl ?_
                refine g_iconst hB (nI 5) dL_leaves_74 rfl ?_
                refine g_iload hB 9 dL_leaves_75 rfl ?_
                refine g_imul hB dL_leaves_77 ?_
                refine g_top (nI (5 * j)) (pk_mul _ _) ?_
                refine g_iload_n hB 0 dL_leaves_78 rfl rfl ?_
                refine g_iadd hB dL_leaves_79 ?_
                refine g_top (nI (5 * j + p)) (nI_add _ _) ?_
                refine g_iald hB 22 4 (5 * j + p) (n := 60) (by decide) rfl (by first | assumption | omega) (Nat.le_of_ble_eq_true rfl) dL_leaves_80 ?_
                refine g_top ((A 22 4 (5 * j + p))) (rfl) ?_
                refine g_istore hB 11 dL_leaves_81 (by decide) ?_
                refine g_aload hB 6 dL_leaves_83 rfl ?_
                refine g_iconst hB (nI 5) dL_leaves_85 rfl ?_
                refine g_iload hB 9 dL_leaves_86 rfl ?_
                refine g_imul hB dL_leaves_88 ?_
                refine g_top (nI (5 * j)) (pk_mul _ _) ?_
                refine g_iload_n hB 0 dL_leaves_89 rfl rfl ?_
                refine g_iadd hB dL_leaves_90 ?_
                refine g_top (nI (5 * j + p)) (nI_add _ _) ?_
                refine g_iload hB 11 dL_leaves_91 rfl ?_
                refine g_if_le hB 115 dL_leaves_93 (by decide) (fun c_93 => ?_) (fun c_93 => ?_)
                · refine g_iload hB 11 dL_leaves_115 rfl ?_
                  refine s_iast hB 22 4 (5 * j + p) (n := 60) (by decide) (fun _ => rfl) (by first | assumption | omega) (Nat.le_of_ble_eq_true rfl) dL_leaves_117 ?_
                  have hgv : vGiv A p j = A := by unfold vGiv; rw [decide_eq_false v1]; rfl
                  refine s_eq A uM_self (g_sub _ rfl (last A (fun k _ => by rw [hgv]) hLA0 rfl rfl rfl (A 22 4 (5 * j + p))))
                · exact absurd v2 c_93
        · have hjn : j = nc := by omega
          subst hjn
          have hfin : ∀ k, k ≠ 22 → unA A true nm k = rVoidM S1 p j nm k := fun k hk => by
            have z1 : unA A true nm k = uS A 18 4 (vuF A true nm) k := funext fun i => uS_n (fun y => hk y.1)
            have z2 : vuF A true nm = vUnt (vMem S1 p j) nm := by
              show ovl (A 18 4) 0 nm (fun m => bif mHalt A m then A 17 0 1 else A 18 4 m) = ovl (vMem S1 p j 18 4) 0 nm (fun m => bif mHalt (vMem S1 p j) m then vMem S1 p j 17 0 1 else vMem S1 p j 18 4 m)
              have z3 : (fun m => bif mHalt A m then A 17 0 1 else A 18 4 m) = (fun m => bif mHalt (vMem S1 p j) m then vMem S1 p j 17 0 1 else vMem S1 p j 18 4 m) := funext fun m => by
                rw [halt_18 (hAj 18 (by decide)), hAj 18 (by decide), hAj 17 (by decide)]
              rw [z3, hAj 18 (by decide)]
            rw [z1, z2]
            exact uS_cg hAj rfl k hk
          refine g_iload hB 9 dL_leaves_49 rfl ?_
          refine g_aload_n hB 2 dL_leaves_51 rfl rfl ?_
          refine g_iconst hB (nI 4) dL_leaves_52 rfl ?_
          refine g_iald hB 22 0 4 (n := 12) (by decide) rfl (by first | assumption | omega) (Nat.le_of_ble_eq_true rfl) dL_leaves_53 ?_
          refine g_top (nI (j)) (q4') ?_
          refine n_icmp_ge hB j j 218 dL_leaves_54 (by decide) (by omega) (by omega) (fun c_54 => ?_) (fun c_54 => ?_)
          · refine g_iconst hB (nI 0) dL_leaves_218 rfl ?_
            refine g_istore hB 9 dL_leaves_219 (by decide) ?_
            refine s_eq _ (un0 _).symm (g_sub _ rfl (free A (vCnt S1 p j) hLA0 hRA (fun z => by cases z) hs0 (by rw [hS1]; rfl) (fun k hk => by rw [hfin k hk, hS1]; rfl) (nm + 1) 0 (by omega) (by omega)))
          · exact absurd c_54 (by omega)
    have hA0 : ∀ k, k ≠ 22 → goA S p true k = vMem S1 p 0 k := fun k hk => by
      rw [hS1]
      unfold goA
      rw [uM_22 hk, uM_22 hk]; rfl
    refine g_aload_n hB 2 dL_leaves_0 rfl rfl ?_
    refine g_bipush hB (nI 10) dL_leaves_1 rfl ?_
    refine g_iald hB 22 0 10 (n := 12) (by decide) rfl (by first | assumption | omega) (Nat.le_of_ble_eq_true rfl) dL_leaves_3 ?_
    refine g_iload_n hB 0 dL_leaves_4 rfl rfl ?_
    refine g_ishr hB dL_leaves_5 ?_
    refine g_iconst hB (nI 1) dL_leaves_6 rfl ?_
    refine g_iand hB dL_leaves_7 ?_
    refine g_iconst hB (nI 1) dL_leaves_8 rfl ?_
    refine g_icmp_ne hB 15 dL_leaves_9 (by decide) (fun c_9 => ?_) (fun c_9 => ?_)
    · have hs0 : S 18 1 p = 0 := by
        have : cntI (S 22 0 10) (nI p) = false := by rw [cnt_bit]; exact decide_eq_false c_9
        rw [g2] at this
        exact Decidable.not_not.mp (of_decide_eq_false this)
      refine g_aload_n hB 2 dL_leaves_15 rfl rfl ?_
      refine g_bipush hB (nI 10) dL_leaves_16 rfl ?_
      refine g_dup2 hB rfl rfl dL_leaves_18 ?_
      refine g_iald hB 22 0 10 (n := 12) (by decide) rfl (by first | assumption | omega) (Nat.le_of_ble_eq_true rfl) dL_leaves_19 ?_
      refine g_iconst hB (nI 1) dL_leaves_20 rfl ?_
      refine g_iload_n hB 0 dL_leaves_21 rfl rfl ?_
      refine g_ishl hB dL_leaves_22 ?_
      refine g_ior hB dL_leaves_23 ?_
      refine s_iast hB 22 0 10 (n := 12) (by decide) (fun _ => rfl) (by first | assumption | omega) (Nat.le_of_ble_eq_true rfl) dL_leaves_24 ?_
      refine g_aload_n hB 2 dL_leaves_25 rfl rfl ?_
      refine g_bipush hB (nI 11) dL_leaves_26 rfl ?_
      refine g_dup2 hB rfl rfl dL_leaves_28 ?_
      refine g_iald hB 22 0 11 (n := 12) (by decide) rfl (by first | assumption | omega) (Nat.le_of_ble_eq_true rfl) dL_leaves_29 ?_
      refine g_top ((S 22 0 11)) (uM_n (by omega)) ?_
      refine g_iload_n hB 1 dL_leaves_30 rfl rfl ?_
      refine b_if_eq hB (true) 40 dL_leaves_31 (by decide) (fun c_31 => ?_) (fun c_31 => ?_)
      · cases c_31
      · refine g_iconst hB (nI 1) dL_leaves_34 rfl ?_
        refine g_iload_n hB 0 dL_leaves_35 rfl rfl ?_
        refine g_ishl hB dL_leaves_36 ?_
        refine g_goto hB 41 dL_leaves_37 (by decide) ?_
        refine g_ior hB dL_leaves_41 ?_
        refine s_iast hB 22 0 11 (n := 12) (by decide) (fun _ => rfl) (by first | assumption | omega) (Nat.le_of_ble_eq_true rfl) dL_leaves_42 ?_
        refine g_gh (goA S p true) (gh_u (by decide) (by decide) (by decide) (gh_u (by decide) (by decide) (by decide) (gh_g (Or.inr (Or.inl rfl))))) ?_
        refine g_iconst hB (nI 0) dL_leaves_43 rfl ?_
        refine g_istore hB 8 dL_leaves_44 (by decide) ?_
        refine g_iconst hB (nI 0) dL_leaves_46 rfl ?_
        refine g_istore hB 9 dL_leaves_47 (by decide) ?_
        exact g_sub _ rfl (loop hs0 (nc + 1) 0 (goA S p true) (by omega) (Nat.zero_le _) hA0 (hLG hs0))
    · have hs0 : S 18 1 p ≠ 0 := by
        have : cntI (S 22 0 10) (nI p) = true := by rw [cnt_bit]; exact decide_eq_true c_9
        rw [g2] at this
        exact of_decide_eq_true this
      refine g_bipush hB (-3) dL_leaves_12 rfl ?_
      exact g_iret hB hr rfl (Nat.le_of_ble_eq_true rfl) (Nat.le_of_ble_eq_true rfl) (Or.inl ⟨hs0, rfl, rfl⟩) dL_leaves_14
end L6
