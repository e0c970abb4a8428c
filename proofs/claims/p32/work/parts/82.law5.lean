/-! the law: approves, leaves -/
theorem g_ineg {p : Program} {l : Launch} {e : Env} {R : Room} {s : State} {m : MethodId} {args : Array Value} {below : List Frame} {meth : Method} {c : Code} {D : va_G} {ad : Nat → Nat → Nat} {A : Nat → Prop} {nL : Nat} {Q : State → Prop} {cells slots : Nat} {cn : Nat → Nat} {E : Rl} {lvs : List (Nat × Value)} {st : List Value} {cc : ByteArray} {own : String} {ca : Nat → ClassId} {SR : List (String × Nat × String)} {pc : Nat} (hB : MB p s m args meth c cc own nL D ca SR A) {x : Int32} (hdg : decode cc pc = .ok (.ineg, 1)) (k : G p l e R s m args below meth c D ad A nL Q cells slots cn E (pc + 1) lvs (.int (-x) :: st)) : G p l e R s m args below meth c D ad A nL Q cells slots cn E pc lvs (.int x :: st) :=
  fun H locs ls h1 h2 h3 => lv_ineg hB.1 hB.2.1 hdg (k H locs ls h1 h2 h3)
section L5
variable {l : Launch} {D : va_G} {ad : Nat → Nat → Nat} {ca : Nat → ClassId} {SR : List (String × Nat × String)}
def apG (S : Mem) (p c t : Nat) : Bool := decide (S 18 1 p = 0) && (bitI (S 18 0 (t / 7 % 4)) (nI p) && (decide (S 18 6 c ≠ nI p) && (decide (S 18 13 (8 * c + p) ≠ nI 1) && decide (S 18 11 c ≠ nI 3))))
def apG1 (S : Mem) (p c t : Nat) : Mem := uM (uM S 18 13 (8 * c + p) (nI 1)) 18 14 (8 * c + p) (nI t)
theorem apA_22 {S : Mem} {p c t k : Nat} (h : k ≠ 22) : apA S p c t k = apG1 S p c t k := by
  unfold apA apG1
  funext i
  exact uM_k (fun z => h z.1)

theorem ho_22 {S : Mem} {c r rk' k : Nat} {x : Int32} (h : k ≠ 22) : hoA S c r rk' x k = uM (uM (uM S 18 11 c (nI 1)) 17 0 12 x) 18 12 c (nI r) k := by
  unfold hoA
  rw [uM_22 h, uM_22 h, uM_22 h]
theorem uM_cg {A P : Mem} {k i j : Nat} {x y : Int32} (hk : k ≠ 22) (h : ∀ a, a ≠ 22 → A a = P a) (hx : x = y) : ∀ a, a ≠ 22 → uM A k i j x a = uM P k i j y a := by
  intro a ha
  unfold uM
  funext b
  unfold uS
  rw [h a ha, h k hk, hx]
theorem apGood {S : Mem} {p c t : Nat} (hp : p < 8) (h : S 18 13 (8 * c + p) ≠ nI 1) : mGood (apG1 S p c t) c = mGood S c + 1 := by
  have e13 : apG1 S p c t 18 13 = upd (S 18 13) (8 * c + p) (nI 1) := by unfold apG1; rw [uM_k (by omega), uM_ks]
  unfold mGood
  rw [e13]
  refine cntB_one (p := p) hp (decide_eq_false h) ?_ (fun k hk hkp => ?_)
  · unfold upd; rw [if_pos rfl]; rfl
  · unfold upd; rw [if_neg (by omega)]
theorem c_L_approves (S : Mem) (ng nm nc t pa rk : Nat) (hL : LR S ng nm nc t pa rk) (hR : RI S ng nm nc t pa) (p c : Nat) (hp : p < 5) (hc : c < nc) (h12 : S 17 0 12 = nI rk) (hrk' : rk + 1 < 2 ^ 20) (hgd : S 18 11 c ≠ nI 1 → S 18 11 c ≠ nI 3 → mGood S c ≤ 1) : CI l yL_approves cL_approves 7 (some .int) { frames := 1, cells := 0, slots := 0, locals := 23 } D ad CNT ca SR (SH ad ca S) [.int (nI p), .int (nI c), .ref (ad 22 0), .ref (ad 22 3), .ref (ad 22 4), .ref (ad 22 5)] (fun r E' => (apG S p c t = false ∧ r = -3 ∧ E' = SH ad ca S) ∨ (apG S p c t = true ∧ ∃ A' rk', r = (rAppr (apG1 S p c t) c).1 ∧ E' = SH ad ca A' ∧ (∀ k, k ≠ 22 → A' k = (rAppr (apG1 S p c t) c).2 k) ∧ LR A' ng nm nc t pa rk' ∧ A' 17 0 12 = nI rk' ∧ rk' ≤ rk + 1)) := by
  have hL0 := hL
  obtain ⟨⟨⟨q0, q1, q2, q3, q4, q5⟩, hng1, hng4, hnm3, hnc12, ht20, hrk20, hpa12⟩, hD, hG, hN, hT, hZ, hC, hCz, hA, hGa, hE⟩ := hL
  have hc12 : c < 12 := by omega
  have ed : S 22 0 (6 + t / 7 % 4) = S 18 0 (t / 7 % 4) := hD _ (Nat.mod_lt _ (by decide))
  obtain ⟨g1, g2, g3⟩ := hG p hp
  obtain ⟨a0, d0, ha0, hd0, x1, x2, x3, x4⟩ := hGa c hc
  obtain ⟨p', k', w, st, -, -, -, -, -, a6, b1, b2, b3, b4, b5, b6, b7, b8, bx⟩ := hC c hc
  have hLA := LR_apA hL0 hp hc12
  have eA3 : ∀ j, apA S p c t 22 3 j = S 22 3 j := fun j => congrFun (show apA S p c t 22 3 = S 22 3 by unfold apA; rw [uM_k (by omega), uM_k (by omega), uM_k (by omega)]) j
  have eA0 : ∀ j, apA S p c t 22 0 j = S 22 0 j := fun j => congrFun (show apA S p c t 22 0 = S 22 0 by unfold apA; rw [uM_k (by omega), uM_k (by omega), uM_k (by omega)]) j
  have g12 : apG1 S p c t 17 0 12 = nI rk := by unfold apG1; rw [uM_k (by omega), uM_k (by omega)]; exact h12
  have g18 : ∀ i, i ≠ 13 → i ≠ 14 → apG1 S p c t 18 i = S 18 i := fun i h1 h2 => by unfold apG1; rw [uM_k (by omega), uM_k (by omega)]
  refine CI.of _ RL (by decide +kernel) rfl (Nat.le_of_ble_eq_true rfl) ?_
  intro p9 e9 s9 m9 a9 b9 me9 c9 A9 hB hr hnm9
  have yes : apG S p c t = true → S 18 13 (8 * c + p) ≠ nI 1 → G p9 l e9 { frames := 1, cells := 0, slots := 0, locals := 23 } s9 m9 a9 b9 me9 c9 D ad A9 7 (MQ b9 (va_Qi (fun r E' => (apG S p c t = false ∧ r = -3 ∧ E' = SH ad ca S) ∨ (apG S p c t = true ∧ ∃ A' rk', r = (rAppr (apG1 S p c t) c).1 ∧ E' = SH ad ca A' ∧ (∀ k, k ≠ 22 → A' k = (rAppr (apG1 S p c t) c).2 k) ∧ LR A' ng nm nc t pa rk' ∧ A' 17 0 12 = nI rk' ∧ rk' ≤ rk + 1)) (fun E' t => WW D ad CNT A9 E' t.heap) A9) a9 s9 0 0 A9) 0 0 CNT (SH ad ca (apA S p c t)) 92 [(0, .int (nI p)), (1, .int (nI c)), (2, .ref (ad 22 0)), (3, .ref (ad 22 3)), (4, .ref (ad 22 4)), (5, .ref (ad 22 5)), (6, .int (nI 1))] [] := by
    intro hap hng
    have hmg := apGood (S := S) (p := p) (c := c) (t := t) (by omega) hng
    have hmA : mGood (apA S p c t) c = mGood (apG1 S p c t) c := by unfold mGood; rw [apA_22 (by decide)]
    have hg5 : cntB (fun p_1 => decide (0 < apA S p c t 22 4 (5 * c + p_1))) 5 = mGood (apA S p c t) c := (good_5 hLA hc12).symm
    have hle8 : mGood (apA S p c t) c ≤ 8 := cntB_le _ 8
    have hst3 : st ≠ 3 := by
      intro z
      have := (Bool.and_eq_true_iff.mp (Bool.and_eq_true_iff.mp (Bool.and_eq_true_iff.mp (Bool.and_eq_true_iff.mp hap).2).2).2).2
      exact of_decide_eq_true this (by rw [b8, z])
    have e98 : apA S p c t 22 3 (5 * c + 3) = nI st := (eA3 _).trans b7
    have stay : (st = 1 ∨ mGood (apG1 S p c t) c ≤ 1) → rAppr (apG1 S p c t) c = (nI st, apG1 S p c t) := by
      intro z
      unfold rAppr
      rw [g18 11 (by decide) (by decide), b8]
      rcases z with z | z
      · rw [z, decide_eq_true (p := nI 1 = nI 1) rfl, cond_true]
      · by_cases z1 : st = 1
        · rw [z1, decide_eq_true (p := nI 1 = nI 1) rfl, cond_true]
        · rw [decide_eq_false (p := nI st = nI 1) (fun y => z1 ((nI_eq (by omega) (by omega)).mp y)), decide_eq_true z]; rfl
    have ends : (st = 1 ∨ mGood (apG1 S p c t) c ≤ 1) → ∃ A' rk', nI st = (rAppr (apG1 S p c t) c).1 ∧ SH ad ca (apA S p c t) = SH ad ca A' ∧ (∀ k, k ≠ 22 → A' k = (rAppr (apG1 S p c t) c).2 k) ∧ LR A' ng nm nc t pa rk' ∧ A' 17 0 12 = nI rk' ∧ rk' ≤ rk + 1 := fun z => by
      rw [stay z]
      exact ⟨apA S p c t, rk, rfl, rfl, fun k hk => apA_22 hk, hLA, by rw [apA_22 (by decide)]; exact g12, by omega⟩
    have tail1 : (st = 1 ∨ mGood (apG1 S p c t) c ≤ 1) → G p9 l e9 { frames := 1, cells := 0, slots := 0, locals := 23 } s9 m9 a9 b9 me9 c9 D ad A9 7 (MQ b9 (va_Qi (fun r E' => (apG S p c t = false ∧ r = -3 ∧ E' = SH ad ca S) ∨ (apG S p c t = true ∧ ∃ A' rk', r = (rAppr (apG1 S p c t) c).1 ∧ E' = SH ad ca A' ∧ (∀ k, k ≠ 22 → A' k = (rAppr (apG1 S p c t) c).2 k) ∧ LR A' ng nm nc t pa rk' ∧ A' 17 0 12 = nI rk' ∧ rk' ≤ rk + 1)) (fun E' t => WW D ad CNT A9 E' t.heap) A9) a9 s9 0 0 A9) 0 0 CNT (SH ad ca (apA S p c t)) 172 [(0, .int (nI p)), (1, .int (nI c)), (2, .ref (ad 22 0)), (3, .ref (ad 22 3)), (4, .ref (ad 22 4)), (5, .ref (ad 22 5)), (6, .int (nI 1))] [] := by
      intro z
      refine g_aload_n hB 3 dL_approves_172 rfl rfl ?_
      refine g_iconst hB (nI 5) dL_approves_173 rfl ?_
      refine g_iload_n hB 1 dL_approves_174 rfl rfl ?_
      refine g_imul hB dL_approves_175 ?_
      refine g_top (nI (5 * c)) (pk_mul _ _) ?_
      refine g_iconst hB (nI 3) dL_approves_176 rfl ?_
      refine g_iadd hB dL_approves_177 ?_
      refine g_top (nI (5 * c + 3)) (nI_add _ _) ?_
      refine g_iald hB 22 3 (5 * c + 3) (n := 60) (by decide) rfl (by first | assumption | omega) (Nat.le_of_ble_eq_true rfl) dL_approves_178 ?_
      refine g_top (nI (st)) (e98) ?_
      exact g_iret hB hr rfl (Nat.le_of_ble_eq_true rfl) (Nat.le_of_ble_eq_true rfl) (Or.inr ⟨hap, ends z⟩) dL_approves_179
    have tail2 : ∀ (r rk' : Nat), r < rk' → rk ≤ rk' → rk' ≤ rk + 1 → rAppr (apG1 S p c t) c = (nI 1, uM (uM (uM (apG1 S p c t) 18 11 c (nI 1)) 17 0 12 (nI rk')) 18 12 c (nI r)) → G p9 l e9 { frames := 1, cells := 0, slots := 0, locals := 23 } s9 m9 a9 b9 me9 c9 D ad A9 7 (MQ b9 (va_Qi (fun r E' => (apG S p c t = false ∧ r = -3 ∧ E' = SH ad ca S) ∨ (apG S p c t = true ∧ ∃ A' rk', r = (rAppr (apG1 S p c t) c).1 ∧ E' = SH ad ca A' ∧ (∀ k, k ≠ 22 → A' k = (rAppr (apG1 S p c t) c).2 k) ∧ LR A' ng nm nc t pa rk' ∧ A' 17 0 12 = nI rk' ∧ rk' ≤ rk + 1)) (fun E' t => WW D ad CNT A9 E' t.heap) A9) a9 s9 0 0 A9) 0 0 CNT (SH ad ca (uM (uM (uM (apA S p c t) 22 3 (5 * c + 3) (nI 1)) 22 0 5 (nI rk')) 22 3 (5 * c + 4) (nI (r + 1)))) 172 [(0, .int (nI p)), (1, .int (nI c)), (2, .ref (ad 22 0)), (3, .ref (ad 22 3)), (4, .ref (ad 22 4)), (5, .ref (ad 22 5)), (6, .int (nI 1))] [] := by
      intro r rk' z1 z2 z3 z4
      refine g_gh (hoA (apA S p c t) c r rk' (nI rk')) ho_gh ?_
      have hfin : ∃ A' rk'', nI 1 = (rAppr (apG1 S p c t) c).1 ∧ SH ad ca (hoA (apA S p c t) c r rk' (nI rk')) = SH ad ca A' ∧ (∀ k, k ≠ 22 → A' k = (rAppr (apG1 S p c t) c).2 k) ∧ LR A' ng nm nc t pa rk'' ∧ A' 17 0 12 = nI rk'' ∧ rk'' ≤ rk + 1 := by
        rw [z4]
        refine ⟨_, rk', rfl, rfl, fun k hk => ?_, LR_hoA hLA hc z1 z2 (by omega), ?_, z3⟩
        · rw [ho_22 hk]
          exact uM_cg (by decide) (uM_cg (by decide) (uM_cg (by decide) (fun a ha => apA_22 ha) rfl) rfl) rfl k hk
        · rw [ho_22 (by decide), uM_n (by omega), uM_s]
      refine g_aload_n hB 3 dL_approves_172 rfl rfl ?_
      refine g_iconst hB (nI 5) dL_approves_173 rfl ?_
      refine g_iload_n hB 1 dL_approves_174 rfl rfl ?_
      refine g_imul hB dL_approves_175 ?_
      refine g_top (nI (5 * c)) (pk_mul _ _) ?_
      refine g_iconst hB (nI 3) dL_approves_176 rfl ?_
      refine g_iadd hB dL_approves_177 ?_
      refine g_top (nI (5 * c + 3)) (nI_add _ _) ?_
      refine g_iald hB 22 3 (5 * c + 3) (n := 60) (by decide) rfl (by first | assumption | omega) (Nat.le_of_ble_eq_true rfl) dL_approves_178 ?_
      refine g_top (nI (1)) ((uM_n (by omega)).trans ((uM_n (by omega)).trans uM_s)) ?_
      exact g_iret hB hr rfl (Nat.le_of_ble_eq_true rfl) (Nat.le_of_ble_eq_true rfl) (Or.inr ⟨hap, hfin⟩) dL_approves_179

    rcases bx with ⟨r1, r2, r3⟩ | ⟨r, hr, r1, r2⟩
    · have e131 : uM (apA S p c t) 22 3 (5 * c + 3) (nI 1) 22 3 (5 * c + 4) = nI 0 := (uM_n (by omega)).trans ((eA3 _).trans r2)
      have e124 : uM (apA S p c t) 22 3 (5 * c + 3) (nI 1) 22 0 5 = nI rk := (uM_n (by omega)).trans ((eA0 _).trans q5)
      have fin : st ≠ 1 → mGood (apG1 S p c t) c = 2 → rAppr (apG1 S p c t) c = (nI 1, uM (uM (uM (apG1 S p c t) 18 11 c (nI 1)) 17 0 12 (nI (rk + 1))) 18 12 c (nI rk)) := by
        intro z1 z2
        unfold rAppr
        rw [g18 11 (by decide) (by decide), b8, decide_eq_false (p := nI st = nI 1) (fun y => z1 ((nI_eq (by omega) (by omega)).mp y)), decide_eq_false (p := mGood (apG1 S p c t) c ≤ 1) (by omega), g18 12 (by decide) (by decide), r1, g12, nI_add, sub1, decide_eq_true (p := (-1 : Int32) = -1) rfl]; rfl
      refine g_aload_n hB 3 dL_approves_92 rfl rfl ?_
      refine g_iconst hB (nI 5) dL_approves_93 rfl ?_
      refine g_iload_n hB 1 dL_approves_94 rfl rfl ?_
      refine g_imul hB dL_approves_95 ?_
      refine g_top (nI (5 * c)) (pk_mul _ _) ?_
      refine g_iconst hB (nI 3) dL_approves_96 rfl ?_
      refine g_iadd hB dL_approves_97 ?_
      refine g_top (nI (5 * c + 3)) (nI_add _ _) ?_
      refine g_iald hB 22 3 (5 * c + 3) (n := 60) (by decide) rfl (by first | assumption | omega) (Nat.le_of_ble_eq_true rfl) dL_approves_98 ?_
      refine g_top (nI (st)) (e98) ?_
      refine g_iconst hB (nI 1) dL_approves_99 rfl ?_
      refine n_icmp_eq hB st 1 172 dL_approves_100 (by decide) (by omega) (by omega) (fun c_100 => ?_) (fun c_100 => ?_)
      · have d_100 : decide (st = 1) = true := decide_eq_true c_100
        have hz : st = 1 ∨ mGood (apG1 S p c t) c ≤ 1 := Or.inl c_100
        exact g_sub _ rfl (tail1 hz)
      · have d_100 : decide (st = 1) = false := decide_eq_false c_100
        refine g_iload_n hB 1 dL_approves_103 rfl rfl ?_
        refine g_aload hB 4 dL_approves_104 rfl ?_
        refine g_callSI hB (c_L_good _ c hc12) k_L_119 yk_L_good ⟨Nat.le_of_ble_eq_true rfl, Nat.le_of_ble_eq_true rfl⟩ rfl (Nat.le_of_ble_eq_true rfl) ⟨Nat.le_of_ble_eq_true rfl, Nat.le_of_ble_eq_true rfl⟩ dL_approves_106 ?_
        rintro _ _ ⟨rfl, rfl⟩
        refine g_top (nI (mGood (apA S p c t) c)) (by rw [hg5]) ?_
        refine g_iconst hB (nI 2) dL_approves_109 rfl ?_
        refine n_icmp_ne hB (mGood (apA S p c t) c) 2 172 dL_approves_110 (by decide) (by omega) (by omega) (fun c_110 => ?_) (fun c_110 => ?_)
        · have d_110 : decide (mGood (apA S p c t) c = 2) = false := decide_eq_false c_110
          have hz : st = 1 ∨ mGood (apG1 S p c t) c ≤ 1 := Or.inr (by rw [hmA] at c_110; have := hgd (by rw [b8]; exact fun y => c_100 ((nI_eq (by omega) (by omega)).mp y)) (by rw [b8]; exact fun y => hst3 ((nI_eq (by omega) (by omega)).mp y)); omega)
          exact g_sub _ rfl (tail1 hz)
        · have d_110 : decide (mGood (apA S p c t) c = 2) = true := decide_eq_true c_110
          have hfin := fin c_100 (by rw [← hmA]; exact c_110)
          refine g_aload_n hB 3 dL_approves_113 rfl rfl ?_
          refine g_iconst hB (nI 5) dL_approves_114 rfl ?_
          refine g_iload_n hB 1 dL_approves_115 rfl rfl ?_
          refine g_imul hB dL_approves_116 ?_
          refine g_top (nI (5 * c)) (pk_mul _ _) ?_
          refine g_iconst hB (nI 3) dL_approves_117 rfl ?_
          refine g_iadd hB dL_approves_118 ?_
          refine g_top (nI (5 * c + 3)) (nI_add _ _) ?_
          refine g_iconst hB (nI 1) dL_approves_119 rfl ?_
          refine s_iast hB 22 3 (5 * c + 3) (n := 60) (by decide) (fun _ => rfl) (by first | assumption | omega) (Nat.le_of_ble_eq_true rfl) dL_approves_120 ?_
          refine g_aload_n hB 2 dL_approves_121 rfl rfl ?_
          refine g_iconst hB (nI 5) dL_approves_122 rfl ?_
          refine g_dup2 hB rfl rfl dL_approves_123 ?_
          refine g_iald hB 22 0 5 (n := 12) (by decide) rfl (by first | assumption | omega) (Nat.le_of_ble_eq_true rfl) dL_approves_124 ?_
          refine g_top (nI (rk)) (e124) ?_
          refine g_aload_n hB 3 dL_approves_125 rfl rfl ?_
          refine g_iconst hB (nI 5) dL_approves_126 rfl ?_
          refine g_iload_n hB 1 dL_approves_127 rfl rfl ?_
          refine g_imul hB dL_approves_128 ?_
          refine g_top (nI (5 * c)) (pk_mul _ _) ?_
          refine g_iconst hB (nI 4) dL_approves_129 rfl ?_
          refine g_iadd hB dL_approves_130 ?_
          refine g_top (nI (5 * c + 4)) (nI_add _ _) ?_
          refine g_iald hB 22 3 (5 * c + 4) (n := 60) (by decide) rfl (by first | assumption | omega) (Nat.le_of_ble_eq_true rfl) dL_approves_131 ?_
          refine g_top (nI (0)) (e131) ?_
          refine g_if_ne hB 139 dL_approves_132 (by decide) (fun z => absurd rfl z) (fun _ => ?_)
          refine g_iconst hB (nI 1) dL_approves_135 rfl ?_
          refine g_goto hB 140 dL_approves_136 (by decide) ?_
          refine g_iadd hB dL_approves_140 ?_
          refine g_top (nI (rk + 1)) (nI_add _ _) ?_
          refine s_iast hB 22 0 5 (n := 12) (by decide) (fun _ => rfl) (by first | assumption | omega) (Nat.le_of_ble_eq_true rfl) dL_approves_141 ?_
          refine g_aload_n hB 3 dL_approves_142 rfl rfl ?_
          refine g_iconst hB (nI 5) dL_approves_143 rfl ?_
          refine g_iload_n hB 1 dL_approves_144 rfl rfl ?_
          refine g_imul hB dL_approves_145 ?_
          refine g_top (nI (5 * c)) (pk_mul _ _) ?_
          refine g_iconst hB (nI 4) dL_approves_146 rfl ?_
          refine g_iadd hB dL_approves_147 ?_
          refine g_top (nI (5 * c + 4)) (nI_add _ _) ?_
          refine g_aload_n hB 3 dL_approves_148 rfl rfl ?_
          refine g_iconst hB (nI 5) dL_approves_149 rfl ?_
          refine g_iload_n hB 1 dL_approves_150 rfl rfl ?_
          refine g_imul hB dL_approves_151 ?_
          refine g_top (nI (5 * c)) (pk_mul _ _) ?_
          refine g_iconst hB (nI 4) dL_approves_152 rfl ?_
          refine g_iadd hB dL_approves_153 ?_
          refine g_top (nI (5 * c + 4)) (nI_add _ _) ?_
          refine g_iald hB 22 3 (5 * c + 4) (n := 60) (by decide) rfl (by first | assumption | omega) (Nat.le_of_ble_eq_true rfl) dL_approves_154 ?_
          refine g_top (nI (0)) ((uM_n (by omega)).trans e131) ?_
          refine g_if_ne hB 164 dL_approves_155 (by decide) (fun z => absurd rfl z) (fun _ => ?_)
          refine g_aload_n hB 2 dL_approves_158 rfl rfl ?_
          refine g_iconst hB (nI 5) dL_approves_159 rfl ?_
          refine g_iald hB 22 0 5 (n := 12) (by decide) rfl (by first | assumption | omega) (Nat.le_of_ble_eq_true rfl) dL_approves_160 ?_
          refine g_top (nI (rk + 1)) (uM_s) ?_
          refine g_goto hB 171 dL_approves_161 (by decide) ?_
          refine s_iast hB 22 3 (5 * c + 4) (n := 60) (by decide) (fun _ => rfl) (by first | assumption | omega) (Nat.le_of_ble_eq_true rfl) dL_approves_171 ?_
          exact g_sub _ rfl (tail2 rk (rk + 1) (by omega) (by omega) (by omega) hfin)
    · have e131 : uM (apA S p c t) 22 3 (5 * c + 3) (nI 1) 22 3 (5 * c + 4) = nI (r + 1) := (uM_n (by omega)).trans ((eA3 _).trans r2)
      have e124 : uM (apA S p c t) 22 3 (5 * c + 3) (nI 1) 22 0 5 = nI rk := (uM_n (by omega)).trans ((eA0 _).trans q5)
      have fin : st ≠ 1 → mGood (apG1 S p c t) c = 2 → rAppr (apG1 S p c t) c = (nI 1, uM (uM (uM (apG1 S p c t) 18 11 c (nI 1)) 17 0 12 (nI (rk + 0))) 18 12 c (nI r)) := by
        intro z1 z2
        unfold rAppr
        rw [g18 11 (by decide) (by decide), b8, decide_eq_false (p := nI st = nI 1) (fun y => z1 ((nI_eq (by omega) (by omega)).mp y)), decide_eq_false (p := mGood (apG1 S p c t) c ≤ 1) (by omega), g18 12 (by decide) (by decide), r1, g12, nI_add, nI_add, decide_eq_false (p := nI r = (-1 : Int32)) (m1_ne (by omega))]; rfl
      refine g_aload_n hB 3 dL_approves_92 rfl rfl ?_
      refine g_iconst hB (nI 5) dL_approves_93 rfl ?_
      refine g_iload_n hB 1 dL_approves_94 rfl rfl ?_
      refine g_imul hB dL_approves_95 ?_
      refine g_top (nI (5 * c)) (pk_mul _ _) ?_
      refine g_iconst hB (nI 3) dL_approves_96 rfl ?_
      refine g_iadd hB dL_approves_97 ?_
      refine g_top (nI (5 * c + 3)) (nI_add _ _) ?_
      refine g_iald hB 22 3 (5 * c + 3) (n := 60) (by decide) rfl (by first | assumption | omega) (Nat.le_of_ble_eq_true rfl) dL_approves_98 ?_
      refine g_top (nI (st)) (e98) ?_
      refine g_iconst hB (nI 1) dL_approves_99 rfl ?_
      refine n_icmp_eq hB st 1 172 dL_approves_100 (by decide) (by omega) (by omega) (fun c_100 => ?_) (fun c_100 => ?_)
      · have d_100 : decide (st = 1) = true := decide_eq_true c_100
        have hz : st = 1 ∨ mGood (apG1 S p c t) c ≤ 1 := Or.inl c_100
        exact g_sub _ rfl (tail1 hz)
      · have d_100 : decide (st = 1) = false := decide_eq_false c_100
        refine g_iload_n hB 1 dL_approves_103 rfl rfl ?_
        refine g_aload hB 4 dL_approves_104 rfl ?_
        refine g_callSI hB (c_L_good _ c hc12) k_L_119 yk_L_good ⟨Nat.le_of_ble_eq_true rfl, Nat.le_of_ble_eq_true rfl⟩ rfl (Nat.le_of_ble_eq_true rfl) ⟨Nat.le_of_ble_eq_true rfl, Nat.le_of_ble_eq_true rfl⟩ dL_approves_106 ?_
        rintro _ _ ⟨rfl, rfl⟩
        refine g_top (nI (mGood (apA S p c t) c)) (by rw [hg5]) ?_
        refine g_iconst hB (nI 2) dL_approves_109 rfl ?_
        refine n_icmp_ne hB (mGood (apA S p c t) c) 2 172 dL_approves_110 (by decide) (by omega) (by omega) (fun c_110 => ?_) (fun c_110 => ?_)
        · have d_110 : decide (mGood (apA S p c t) c = 2) = false := decide_eq_false c_110
          have hz : st = 1 ∨ mGood (apG1 S p c t) c ≤ 1 := Or.inr (by rw [hmA] at c_110; have := hgd (by rw [b8]; exact fun y => c_100 ((nI_eq (by omega) (by omega)).mp y)) (by rw [b8]; exact fun y => hst3 ((nI_eq (by omega) (by omega)).mp y)); omega)
          exact g_sub _ rfl (tail1 hz)
        · have d_110 : decide (mGood (apA S p c t) c = 2) = true := decide_eq_true c_110
          have hfin := fin c_100 (by rw [← hmA]; exact c_110)
          refine g_aload_n hB 3 dL_approves_113 rfl rfl ?_
          refine g_iconst hB (nI 5) dL_approves_114 rfl ?_
          refine g_iload_n hB 1 dL_approves_115 rfl rfl ?_
          refine g_imul hB dL_approves_116 ?_
          refine g_top (nI (5 * c)) (pk_mul _ _) ?_
          refine g_iconst hB (nI 3) dL_approves_117 rfl ?_
          refine g_iadd hB dL_approves_118 ?_
          refine g_top (nI (5 * c + 3)) (nI_add _ _) ?_
          refine g_iconst hB (nI 1) dL_approves_119 rfl ?_
          refine s_iast hB 22 3 (5 * c + 3) (n := 60) (by decide) (fun _ => rfl) (by first | assumption | omega) (Nat.le_of_ble_eq_true rfl) dL_approves_120 ?_
          refine g_aload_n hB 2 dL_approves_121 rfl rfl ?_
          refine g_iconst hB (nI 5) dL_approves_122 rfl ?_
          refine g_dup2 hB rfl rfl dL_approves_123 ?_
          refine g_iald hB 22 0 5 (n := 12) (by decide) rfl (by first | assumption | omega) (Nat.le_of_ble_eq_true rfl) dL_approves_124 ?_
          refine g_top (nI (rk)) (e124) ?_
          refine g_aload_n hB 3 dL_approves_125 rfl rfl ?_
          refine g_iconst hB (nI 5) dL_approves_126 rfl ?_
          refine g_iload_n hB 1 dL_approves_127 rfl rfl ?_
          refine g_imul hB dL_approves_128 ?_
          refine g_top (nI (5 * c)) (pk_mul _ _) ?_
          refine g_iconst hB (nI 4) dL_approves_129 rfl ?_
          refine g_iadd hB dL_approves_130 ?_
          refine g_top (nI (5 * c + 4)) (nI_add _ _) ?_
          refine g_iald hB 22 3 (5 * c + 4) (n := 60) (by decide) rfl (by first | assumption | omega) (Nat.le_of_ble_eq_true rfl) dL_approves_131 ?_
          refine g_top (nI (r + 1)) (e131) ?_
          refine g_if_ne hB 139 dL_approves_132 (by decide) (fun c_132 => ?_) (fun c_132 => ?_)
          · refine g_iconst hB (nI 0) dL_approves_139 rfl ?_
            refine g_iadd hB dL_approves_140 ?_
            refine g_top (nI (rk + 0)) (nI_add _ _) ?_
            refine s_iast hB 22 0 5 (n := 12) (by decide) (fun _ => rfl) (by first | assumption | omega) (Nat.le_of_ble_eq_true rfl) dL_approves_141 ?_
            refine g_aload_n hB 3 dL_approves_142 rfl rfl ?_
            refine g_iconst hB (nI 5) dL_approves_143 rfl ?_
            refine g_iload_n hB 1 dL_approves_144 rfl rfl ?_
            refine g_imul hB dL_approves_145 ?_
            refine g_top (nI (5 * c)) (pk_mul _ _) ?_
            refine g_iconst hB (nI 4) dL_approves_146 rfl ?_
            refine g_iadd hB dL_approves_147 ?_
            refine g_top (nI (5 * c + 4)) (nI_add _ _) ?_
            refine g_aload_n hB 3 dL_approves_148 rfl rfl ?_
            refine g_iconst hB (nI 5) dL_approves_149 rfl ?_
            refine g_iload_n hB 1 dL_approves_150 rfl rfl ?_
            refine g_imul hB dL_approves_151 ?_
            refine g_top (nI (5 * c)) (pk_mul _ _) ?_
            refine g_iconst hB (nI 4) dL_approves_152 rfl ?_
            refine g_iadd hB dL_approves_153 ?_
            refine g_top (nI (5 * c + 4)) (nI_add _ _) ?_
            refine g_iald hB 22 3 (5 * c + 4) (n := 60) (by decide) rfl (by first | assumption | omega) (Nat.le_of_ble_eq_true rfl) dL_approves_154 ?_
            refine g_top (nI (r + 1)) ((uM_n (by omega)).trans e131) ?_
            refine g_if_ne hB 164 dL_approves_155 (by decide) (fun c_155 => ?_) (fun c_155 => ?_)
            · refine g_aload_n hB 3 dL_approves_164 rfl rfl ?_
              refine g_iconst hB (nI 5) dL_approves_165 rfl ?_
              refine g_iload_n hB 1 dL_approves_166 rfl rfl ?_
              refine g_imul hB dL_approves_167 ?_
              refine g_top (nI (5 * c)) (pk_mul _ _) ?_
              refine g_iconst hB (nI 4) dL_approves_168 rfl ?_
              refine g_iadd hB dL_approves_169 ?_
              refine g_top (nI (5 * c + 4)) (nI_add _ _) ?_
              refine g_iald hB 22 3 (5 * c + 4) (n := 60) (by decide) rfl (by first | assumption | omega) (Nat.le_of_ble_eq_true rfl) dL_approves_170 ?_
              refine g_top (nI (r + 1)) ((uM_n (by omega)).trans e131) ?_
              refine s_iast hB 22 3 (5 * c + 4) (n := 60) (by decide) (fun _ => rfl) (by first | assumption | omega) (Nat.le_of_ble_eq_true rfl) dL_approves_171 ?_
              exact g_sub _ rfl (tail2 r (rk + 0) (by omega) (by omega) (by omega) hfin)
            · exact absurd c_155 (nI_no0 (by omega) (by omega))
          · exact absurd c_132 (nI_no0 (by omega) (by omega))
  refine g_aload_n hB 2 dL_approves_0 rfl rfl ?_
  refine g_bipush hB (nI 10) dL_approves_1 rfl ?_
  refine g_iald hB 22 0 10 (n := 12) (by decide) rfl (by first | assumption | omega) (Nat.le_of_ble_eq_true rfl) dL_approves_3 ?_
  refine g_iload_n hB 0 dL_approves_4 rfl rfl ?_
  refine g_ishr hB dL_approves_5 ?_
  refine g_iconst hB (nI 1) dL_approves_6 rfl ?_
  refine g_iand hB dL_approves_7 ?_
  refine g_if_ne hB 36 dL_approves_8 (by decide) (fun c_8 => ?_) (fun c_8 => ?_)
  · have h1 : decide (S 18 1 p = 0) = false := by
      refine decide_eq_false (fun z => ?_)
      have : cntI (S 22 0 10) (nI p) = true := decide_eq_true c_8
      rw [g2, z] at this
      cases this
    have hap : apG S p c t = false := by unfold apG; rw [h1]; rfl
    refine g_iconst hB (nI 0) dL_approves_36 rfl ?_
    refine g_istore hB 6 dL_approves_37 (by decide) ?_
    refine g_iload hB 6 dL_approves_39 rfl ?_
    refine g_if_eq hB 76 dL_approves_41 (by decide) (fun _ => ?_) (fun z => absurd rfl z)
    refine g_bipush hB (-3) dL_approves_76 rfl ?_
    exact g_iret hB hr rfl (Nat.le_of_ble_eq_true rfl) (Nat.le_of_ble_eq_true rfl) (Or.inl ⟨hap, rfl, rfl⟩) dL_approves_78
  · have h1 : decide (S 18 1 p = 0) = true := by
      refine decide_eq_true ?_
      have : cntI (S 22 0 10) (nI p) = false := decide_eq_false (fun z => z c_8)
      rw [g2] at this
      exact Decidable.not_not.mp (of_decide_eq_false this)
    refine g_aload_n hB 2 dL_approves_11 rfl rfl ?_
    refine g_bipush hB (nI 6) dL_approves_12 rfl ?_
    refine g_aload_n hB 2 dL_approves_14 rfl rfl ?_
    refine g_iconst hB (nI 0) dL_approves_15 rfl ?_
    refine g_iald hB 22 0 0 (n := 12) (by decide) rfl (by first | assumption | omega) (Nat.le_of_ble_eq_true rfl) dL_approves_16 ?_
    refine g_top (nI (t)) (q0) ?_
    refine g_bipush hB (nI 7) dL_approves_17 rfl ?_
    refine g_idiv hB (by decide) dL_approves_19 ?_
    refine g_top (nI (t / 7)) (pk_div (by omega) (by omega) (by omega)) ?_
    refine g_iconst hB (nI 4) dL_approves_20 rfl ?_
    refine g_irem hB (by decide) dL_approves_21 ?_
    refine g_top (nI (t / 7 % 4)) (pk_rem (by omega) (by omega) (by omega)) ?_
    refine g_iadd hB dL_approves_22 ?_
    refine g_top (nI (6 + t / 7 % 4)) (nI_add _ _) ?_
    refine g_iald hB 22 0 (6 + t / 7 % 4) (n := 12) (by decide) rfl (by first | assumption | omega) (Nat.le_of_ble_eq_true rfl) dL_approves_23 ?_
    refine g_top ((S 18 0 (t / 7 % 4))) (ed) ?_
    refine g_iload_n hB 0 dL_approves_24 rfl rfl ?_
    refine g_ishr hB dL_approves_25 ?_
    refine g_iconst hB (nI 1) dL_approves_26 rfl ?_
    refine g_iand hB dL_approves_27 ?_
    refine g_iconst hB (nI 1) dL_approves_28 rfl ?_
    refine g_icmp_ne hB 36 dL_approves_29 (by decide) (fun c_29 => ?_) (fun c_29 => ?_)
    · have h2 : bitI (S 18 0 (t / 7 % 4)) (nI p) = false := decide_eq_false c_29
      have hap : apG S p c t = false := by unfold apG; rw [h2, Bool.false_and, Bool.and_false]
      refine g_iconst hB (nI 0) dL_approves_36 rfl ?_
      refine g_istore hB 6 dL_approves_37 (by decide) ?_
      refine g_iload hB 6 dL_approves_39 rfl ?_
      refine g_if_eq hB 76 dL_approves_41 (by decide) (fun _ => ?_) (fun z => absurd rfl z)
      refine g_bipush hB (-3) dL_approves_76 rfl ?_
      exact g_iret hB hr rfl (Nat.le_of_ble_eq_true rfl) (Nat.le_of_ble_eq_true rfl) (Or.inl ⟨hap, rfl, rfl⟩) dL_approves_78
    · have h2 : bitI (S 18 0 (t / 7 % 4)) (nI p) = true := decide_eq_true c_29
      refine g_iconst hB (nI 1) dL_approves_32 rfl ?_
      refine g_goto hB 37 dL_approves_33 (by decide) ?_
      refine g_istore hB 6 dL_approves_37 (by decide) ?_
      refine g_iload hB 6 dL_approves_39 rfl ?_
      refine g_if_eq hB 76 dL_approves_41 (by decide) (fun z => absurd z (by decide)) (fun _ => ?_)
      refine g_aload hB 5 dL_approves_44 rfl ?_
      refine g_iconst hB (nI 2) dL_approves_46 rfl ?_
      refine g_iload_n hB 1 dL_approves_47 rfl rfl ?_
      refine g_imul hB dL_approves_48 ?_
      refine g_top (nI (2 * c)) (pk_mul _ _) ?_
      refine g_iald hB 22 5 (2 * c) (n := 24) (by decide) rfl (by first | assumption | omega) (Nat.le_of_ble_eq_true rfl) dL_approves_49 ?_
      refine g_top (nI (a0)) (x1) ?_
      refine g_iload_n hB 0 dL_approves_50 rfl rfl ?_
      refine n_icmp_eq hB a0 p 76 dL_approves_51 (by decide) (by omega) (by omega) (fun c_51 => ?_) (fun c_51 => ?_)
      · have d_51 : decide (a0 = p) = true := decide_eq_true c_51
        have hap : apG S p c t = false := by unfold apG; rw [x2, c_51, decide_eq_false (p := nI p ≠ nI p) (fun z => z rfl), Bool.false_and, Bool.and_false, Bool.and_false]
        refine g_bipush hB (-3) dL_approves_76 rfl ?_
        exact g_iret hB hr rfl (Nat.le_of_ble_eq_true rfl) (Nat.le_of_ble_eq_true rfl) (Or.inl ⟨hap, rfl, rfl⟩) dL_approves_78
      · have d_51 : decide (a0 = p) = false := decide_eq_false c_51
        have h3 : decide (S 18 6 c ≠ nI p) = true := by rw [x2]; exact decide_eq_true (fun z => c_51 ((nI_eq (by omega) (by omega)).mp z))
        refine g_aload hB 4 dL_approves_54 rfl ?_
        refine g_iconst hB (nI 5) dL_approves_56 rfl ?_
        refine g_iload_n hB 1 dL_approves_57 rfl rfl ?_
        refine g_imul hB dL_approves_58 ?_
        refine g_top (nI (5 * c)) (pk_mul _ _) ?_
        refine g_iload_n hB 0 dL_approves_59 rfl rfl ?_
        refine g_iadd hB dL_approves_60 ?_
        refine g_top (nI (5 * c + p)) (nI_add _ _) ?_
        refine g_iald hB 22 4 (5 * c + p) (n := 60) (by decide) rfl (by first | assumption | omega) (Nat.le_of_ble_eq_true rfl) dL_approves_61 ?_
        refine g_if_gt hB 76 dL_approves_62 (by decide) (fun c_62 => ?_) (fun c_62 => ?_)
        · have hap : apG S p c t = false := by
            rcases (hA c hc12).1 p hp with ⟨y, -⟩ | ⟨y1, y2⟩
            · unfold apG; rw [y, decide_eq_false (p := nI 1 ≠ nI 1) (fun z => z rfl), Bool.false_and, Bool.and_false, Bool.and_false, Bool.and_false]
            · exact absurd y2 (Int32.not_le.mpr c_62)
          refine g_bipush hB (-3) dL_approves_76 rfl ?_
          exact g_iret hB hr rfl (Nat.le_of_ble_eq_true rfl) (Nat.le_of_ble_eq_true rfl) (Or.inl ⟨hap, rfl, rfl⟩) dL_approves_78
        · have hng : S 18 13 (8 * c + p) ≠ nI 1 := by
            rcases (hA c hc12).1 p hp with ⟨y, d, y1, y2, y3⟩ | ⟨y1, y2⟩
            · rw [y3] at c_62; exact absurd (by rw [i32_lt, toInt_nI (by omega), zt0]; omega) c_62
            · exact y1
          refine g_aload_n hB 3 dL_approves_65 rfl rfl ?_
          refine g_iconst hB (nI 5) dL_approves_66 rfl ?_
          refine g_iload_n hB 1 dL_approves_67 rfl rfl ?_
          refine g_imul hB dL_approves_68 ?_
          refine g_top (nI (5 * c)) (pk_mul _ _) ?_
          refine g_iconst hB (nI 3) dL_approves_69 rfl ?_
          refine g_iadd hB dL_approves_70 ?_
          refine g_top (nI (5 * c + 3)) (nI_add _ _) ?_
          refine g_iald hB 22 3 (5 * c + 3) (n := 60) (by decide) rfl (by first | assumption | omega) (Nat.le_of_ble_eq_true rfl) dL_approves_71 ?_
          refine g_top (nI (st)) (b7) ?_
          refine g_iconst hB (nI 3) dL_approves_72 rfl ?_
          refine n_icmp_ne hB st 3 79 dL_approves_73 (by decide) (by omega) (by omega) (fun c_73 => ?_) (fun c_73 => ?_)
          · have d_73 : decide (st = 3) = false := decide_eq_false c_73
            have hap : apG S p c t = true := by unfold apG; rw [h1, h2, h3, decide_eq_true hng, b8, decide_eq_true (p := nI st ≠ nI 3) (fun z => c_73 ((nI_eq (by omega) (by omega)).mp z))]; rfl
            refine g_aload hB 4 dL_approves_79 rfl ?_
            refine g_iconst hB (nI 5) dL_approves_81 rfl ?_
            refine g_iload_n hB 1 dL_approves_82 rfl rfl ?_
            refine g_imul hB dL_approves_83 ?_
            refine g_top (nI (5 * c)) (pk_mul _ _) ?_
            refine g_iload_n hB 0 dL_approves_84 rfl rfl ?_
            refine g_iadd hB dL_approves_85 ?_
            refine g_top (nI (5 * c + p)) (nI_add _ _) ?_
            refine g_aload_n hB 2 dL_approves_86 rfl rfl ?_
            refine g_iconst hB (nI 0) dL_approves_87 rfl ?_
            refine g_iald hB 22 0 0 (n := 12) (by decide) rfl (by first | assumption | omega) (Nat.le_of_ble_eq_true rfl) dL_approves_88 ?_
            refine g_top (nI (t)) (q0) ?_
            refine g_iconst hB (nI 1) dL_approves_89 rfl ?_
            refine g_iadd hB dL_approves_90 ?_
            refine g_top (nI (t + 1)) (nI_add _ _) ?_
            refine s_iast hB 22 4 (5 * c + p) (n := 60) (by decide) (fun _ => rfl) (by first | assumption | omega) (Nat.le_of_ble_eq_true rfl) dL_approves_91 ?_
            refine g_gh (apA S p c t) (gh_u (by decide) (by decide) (by decide) (gh_t (gh_g (Or.inr (Or.inl rfl))) (gh_g (Or.inr (Or.inl rfl))))) ?_
            exact g_sub _ rfl (yes hap hng)
          · have d_73 : decide (st = 3) = true := decide_eq_true c_73
            have hap : apG S p c t = false := by unfold apG; rw [b8, c_73, decide_eq_false (p := nI 3 ≠ nI 3) (fun z => z rfl), Bool.and_false, Bool.and_false, Bool.and_false, Bool.and_false]
            refine g_bipush hB (-3) dL_approves_76 rfl ?_
            exact g_iret hB hr rfl (Nat.le_of_ble_eq_true rfl) (Nat.le_of_ble_eq_true rfl) (Or.inl ⟨hap, rfl, rfl⟩) dL_approves_78
end L5
