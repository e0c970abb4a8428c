/-! class and reference: what relates them -/
theorem and1 (z : Int32) : z &&& nI 1 = 0 ∨ z &&& nI 1 = nI 1 := by
  have h : ∀ b : BitVec 32, b &&& 1#32 = 0#32 ∨ b &&& 1#32 = 1#32 := by
    intro b
    by_cases hb : b.getLsbD 0 = true
    · right
      apply BitVec.eq_of_getLsbD_eq
      intro i hi
      simp only [BitVec.getLsbD_and]
      rcases Nat.eq_zero_or_pos i with rfl | h0
      · simp [hb]
      · have : (1#32).getLsbD i = false := by
          simp [BitVec.getLsbD_one]; omega
        rw [this]; simp
    · left
      apply BitVec.eq_of_getLsbD_eq
      intro i hi
      simp only [BitVec.getLsbD_and]
      rcases Nat.eq_zero_or_pos i with rfl | h0
      · simp at hb; simp [hb]
      · have : (1#32).getLsbD i = false := by
          simp [BitVec.getLsbD_one]; omega
        rw [this]; simp
  rcases h z.toBitVec with h | h
  · left
    apply Int32.toBitVec_inj.mp
    exact h
  · right
    apply Int32.toBitVec_inj.mp
    exact h
theorem cnt_bit (x y : Int32) : cntI x y = bitI x y := by
  unfold cntI bitI
  rcases and1 (x >>> (y &&& 31)) with h | h
  · rw [h]; decide
  · rw [h]; decide
def csl (i s : Nat) : Nat := if s = 10 then 10 + i else s
def plS (s : Nat) : Nat := if s < 10 then s else 90 + s
def I_cnt (S : Mem) (rk mo : Nat) : Prop := (S 0 0 10 = nI rk ∧ S 17 0 12 = nI rk ∧ rk ≤ mo) ∧ (S 0 0 11 = nI mo ∧ mo < 2 ^ 20)
def I_duty (S : Mem) : Prop := ∀ i, i < 4 → S 1 0 i = S 18 0 i
def I_par (S : Mem) (ng : Nat) : Prop := ∀ g, g < ng → S 1 1 g = S 18 2 g
def I_per (S : Mem) : Prop := ∀ p, p < 8 → (S 5 p 0 = nI 1 ∧ S 5 p 1 = 0 ∧ S 18 1 p = 0) ∨ (S 5 p 0 = 0 ∧ S 5 p 1 = 0 ∧ S 18 1 p = nI 1) ∨ (S 5 p 0 = 0 ∧ S 5 p 1 = nI 1 ∧ S 18 1 p = nI 2)
def I_mach (S : Mem) (nm : Nat) : Prop := ∀ i, i < 12 → (i < nm → S 6 i 1 = S 18 3 i ∧ clay S i = (10 + i) :: pth (S 18 2) (grp S i)) ∧ S 6 i 2 = S 18 4 i
def I_tk (S : Mem) (nm nc : Nat) : Prop := (∀ i, i < 12 → ∀ s, s ≤ 10 → ∀ k, k < 6 → S 18 5 (6 * (11 * i + s) + k) = S 8 i (csl i s * 6 + k)) ∧ (∀ i, i < 12 → ∀ q, q < 132 → S 8 i q = -1 ∨ (i < nm ∧ q / 6 ∈ clay S i ∧ ∃ c, c < nc ∧ S 8 i q = nI c ∧ S 9 c 1 = nI q))
def I_ch1 (S : Mem) (ng nm c : Nat) : Prop := ∃ a s k, a < 8 ∧ s < 22 ∧ k < 6 ∧ S 9 c 0 = nI a ∧ S 18 6 c = nI a ∧ S 9 c 1 = nI (s * 6 + k) ∧ S 18 7 c = nI (plS s) ∧ S 18 8 c = nI k ∧ (s < ng ∨ (10 ≤ s ∧ s < 10 + nm)) ∧ S 9 c 2 = S 18 10 c ∧ rgB (S 9 c 2) 102 = true ∧ S 9 c 3 = S 18 9 c ∧ S 9 c 4 = S 18 11 c ∧ S 14 0 c = S 18 12 c
def I_ch (S : Mem) (ng nm nc : Nat) : Prop := ∀ c, c < nc → I_ch1 S ng nm c
def I_frs (S : Mem) (nc : Nat) : Prop := ∀ c, nc ≤ c → c < 40 → S 9 c 4 = 0 ∧ S 18 11 c = 0 ∧ S 14 0 c = -1 ∧ ∀ p, p < 8 → S 11 c p = -1
def I_giv1 (S : Mem) (c : Nat) : Prop := (∃ v, v < 256 ∧ S 9 c 5 = nI v) ∧ ∀ p, p < 8 → cntI (S 9 c 5) (nI p) = decide (S 18 13 (8 * c + p) = nI 1) ∧ cntI (S 9 c 5) (nI p) = (decide (S 11 c p ≠ -1) && !hvB S p (S 10 c p)) ∧ (S 11 c p ≠ -1 → S 10 c p = S 18 14 (8 * c + p))
def I_giv (S : Mem) : Prop := ∀ c, c < 40 → I_giv1 S c
def I_heads (S : Mem) (nc : Nat) : Prop := ∀ q, q < 132 → S 13 0 q = oI (bestN (fun c => hdOk S c && decide (hdC S c = q)) (S 14 0) nc)
def I_ex (S : Mem) : Prop := ∀ k o, k < 6 → o < 6 → cntI (S 1 2 k) (nI o) = bitI (S 18 15 k) (nI o) ∧ cntI (S 1 2 k) (nI o) = cntI (S 1 2 o) (nI k)
def I_mom (S : Mem) (mo : Nat) : Prop := (∀ c, c < 40 → ∀ p, p < 8 → S 11 c p = -1 ∨ ∃ x, 1 ≤ x ∧ x ≤ mo ∧ S 11 c p = nI x) ∧ (∀ p, p < 8 → S 5 p 1 ≠ 0 → ∃ x, x ≤ mo ∧ S 5 p 3 = nI x)
def I_st (S : Mem) (nc : Nat) : Prop := ∀ c, c < nc → (S 9 c 4 = nI 1 ↔ haB S c = true) ∧ (hvB S (ix (S 9 c 0)) (S 9 c 3) = true → S 9 c 4 = nI 3)
def I_rk (S : Mem) (nc rk mo : Nat) : Prop := (∀ c, c < nc → (S 14 0 c = -1 ∧ fh S c = -1) ∨ ∃ r x, r < rk ∧ 1 ≤ x ∧ x ≤ mo ∧ S 14 0 c = nI r ∧ fh S c = nI x) ∧ (∀ c d, c < nc → d < nc → S 14 0 c ≠ -1 → S 14 0 d ≠ -1 → (S 14 0 c < S 14 0 d ↔ fh S c < fh S d)) ∧ (∀ c, c < nc → S 9 c 4 = nI 1 → S 14 0 c ≠ -1)
def INV (S : Mem) (ng nm nc t pa rk mo : Nat) : Prop := KI S ng nm nc t pa ∧ RI S ng nm nc t pa ∧ I_cnt S rk mo ∧ I_duty S ∧ I_par S ng ∧ I_per S ∧ I_mach S nm ∧ I_tk S nm nc ∧ I_ch S ng nm nc ∧ I_frs S nc ∧ I_giv S ∧ I_heads S nc ∧ I_ex S ∧ I_mom S mo ∧ I_st S nc ∧ I_rk S nc rk mo
/-- what a call must do: the memory T behind the class's call, then the reference's answer and memory -/
def TT (S : Mem) (code : Nat) (M : Mem) : Mem := bif Nat.beq code 0 then M else S
def STEP (code : Nat) (v : Int32) (t mo : Nat) (r : Int32 × Mem) : Prop := r.2 17 0 0 = nI code ∧ (code = 0 → v = r.1) ∧ ∃ ng' nm' nc' t' pa' rk' mo', INV r.2 ng' nm' nc' t' pa' rk' mo' ∧ t' ≤ t + 60 ∧ mo' ≤ mo + 1
theorem RI_fr {S T : Mem} {ng nm nc t pa : Nat} (h : RI S ng nm nc t pa) (h17 : T 17 = S 17) (h18 : T 18 = S 18) : RI T ng nm nc t pa := by
  unfold RI TK grp at h ⊢
  rw [h17, h18]
  exact h
/-- the reference's thrown, the out array and scratch don't matter -/
theorem INV_sc {S T : Mem} {ng nm nc t pa rk mo : Nat} (h : INV S ng nm nc t pa rk mo) (x v : Int32) : INV (uM (uM S 19 0 0 v) 17 0 0 x) ng nm nc t pa rk mo := h
theorem INV_th {S : Mem} {ng nm nc t pa rk mo : Nat} (h : INV S ng nm nc t pa rk mo) (x : Int32) : INV (uM S 17 0 0 x) ng nm nc t pa rk mo := h
theorem INV_out {S : Mem} {ng nm nc t pa rk mo : Nat} (h : INV S ng nm nc t pa rk mo) (x : Int32) : INV (uM S 19 0 0 x) ng nm nc t pa rk mo := h
theorem INV_LK {S : Mem} {ng nm nc t pa rk mo : Nat} (h : INV S ng nm nc t pa rk mo) (v f b : Nat → Int32) : INV (LK S v f b) ng nm nc t pa rk mo := h
/-- both fail with the same code -/
theorem step_f {S : Mem} {ng nm nc t pa rk mo code : Nat} {v : Int32} {r : Int32 × Mem} (h : INV S ng nm nc t pa rk mo) (hc : code ≠ 0) (hr : r.2 = uM S 17 0 0 (nI code)) : STEP code v t mo r := by
  unfold STEP
  rw [hr]
  exact ⟨uM_s, fun z => absurd z hc, ng, nm, nc, t, pa, rk, mo, INV_th h _, by omega, by omega⟩
/-- both answer the same, and nothing changes -/
theorem step_q {ng nm nc t pa rk mo code : Nat} {v : Int32} {r : Int32 × Mem} (h : INV r.2 ng nm nc t pa rk mo) (h0 : r.2 17 0 0 = 0) (hc : code = 0) (hv : v = r.1) : STEP code v t mo r := by
  subst hc
  exact ⟨h0, fun _ => hv, ng, nm, nc, t, pa, rk, mo, h, by omega, by omega⟩
/-! groups, when only some things have changed -/
theorem hvB_fr {S T : Mem} {p : Nat} {x : Int32} (h1 : T 5 p 1 = S 5 p 1) (h2 : T 5 p 2 = S 5 p 2) : hvB T p x = hvB S p x := by unfold hvB; rw [h1, h2]
theorem giv_fr {S T : Mem} (h : I_giv S) (h9 : ∀ c, T 9 c 5 = S 9 c 5) (h13 : T 18 13 = S 18 13) (h14 : T 18 14 = S 18 14) (h10 : T 10 = S 10) (h11 : T 11 = S 11) (h5 : ∀ p j, j ≠ 0 → T 5 p j = S 5 p j) : I_giv T := by
  intro c hc
  obtain ⟨a, b⟩ := h c hc
  refine ⟨by rw [h9]; exact a, fun p hp => ?_⟩
  rw [h9, h13, h14, h10, h11, hvB_fr (h5 p 1 (by decide)) (h5 p 2 (by decide))]
  exact b p hp
theorem mom_fr {S T : Mem} {mo : Nat} (h : I_mom S mo) (h11 : T 11 = S 11) (h5 : ∀ p j, j ≠ 0 → T 5 p j = S 5 p j) : I_mom T mo := by
  unfold I_mom
  refine ⟨fun c hc p hp => by rw [h11]; exact h.1 c hc p hp, fun p hp => ?_⟩
  rw [h5 p 1 (by decide), h5 p 3 (by decide)]
  exact h.2 p hp
theorem haN_fr {S T : Mem} {c : Nat} (h10 : T 10 c = S 10 c) (h11 : T 11 c = S 11 c) (h5 : ∀ p j, j ≠ 0 → T 5 p j = S 5 p j) : haN T c = haN S c := by
  unfold haN
  refine cntB_cong fun p _ => ?_
  rw [h10, h11, hvB_fr (h5 p 1 (by decide)) (h5 p 2 (by decide))]
theorem haB_fr {S T : Mem} {c : Nat} (h90 : T 9 c 0 = S 9 c 0) (h93 : T 9 c 3 = S 9 c 3) (h10 : T 10 c = S 10 c) (h11 : T 11 c = S 11 c) (h5 : ∀ p j, j ≠ 0 → T 5 p j = S 5 p j) : haB T c = haB S c := by
  unfold haB
  rw [h90, h93, haN_fr h10 h11 h5, hvB_fr (h5 _ 1 (by decide)) (h5 _ 2 (by decide))]
theorem cgN_fr {S T : Mem} {c : Nat} {a : Int32} (h10 : T 10 c = S 10 c) (h11 : T 11 c = S 11 c) (h5 : ∀ p j, j ≠ 0 → T 5 p j = S 5 p j) : cgN T c a = cgN S c a := by
  unfold cgN
  refine cntB_cong fun p _ => ?_
  rw [h10, h11, hvB_fr (h5 p 1 (by decide)) (h5 p 2 (by decide)), h5 p 3 (by decide)]
theorem fhF_fr {S T : Mem} {c : Nat} (h10 : T 10 c = S 10 c) (h11 : T 11 c = S 11 c) (h5 : ∀ p j, j ≠ 0 → T 5 p j = S 5 p j) : ∀ n, fhF T c n = fhF S c n
  | 0 => rfl
  | n + 1 => by unfold fhF; rw [fhF_fr h10 h11 h5 n, cgN_fr h10 h11 h5, h11]
theorem st_fr {S T : Mem} {nc : Nat} (h : I_st S nc) (h9 : ∀ c, T 9 c = S 9 c) (h10 : T 10 = S 10) (h11 : T 11 = S 11) (h5 : ∀ p j, j ≠ 0 → T 5 p j = S 5 p j) : I_st T nc := by
  intro c hc
  rw [haB_fr (by rw [h9]) (by rw [h9]) (by rw [h10]) (by rw [h11]) h5, h9, hvB_fr (h5 _ 1 (by decide)) (h5 _ 2 (by decide))]
  exact h c hc
theorem rk_fr {S T : Mem} {nc rk mo : Nat} (h : I_rk S nc rk mo) (h9 : ∀ c, T 9 c 4 = S 9 c 4) (h14 : T 14 0 = S 14 0) (h10 : T 10 = S 10) (h11 : T 11 = S 11) (h5 : ∀ p j, j ≠ 0 → T 5 p j = S 5 p j) : I_rk T nc rk mo := by
  have e : ∀ c, fh T c = fh S c := fun c => fhF_fr (by rw [h10]) (by rw [h11]) h5 8
  unfold I_rk
  refine ⟨fun c hc => by rw [e, h14]; exact h.1 c hc, fun c d hc hd => by rw [e, e, h14]; exact h.2.1 c d hc hd, fun c hc => by rw [h9, h14]; exact h.2.2 c hc⟩
theorem m1_lt {x : Nat} (h : x < 2 ^ 31) : (-1 : Int32) < nI x := by
  rw [i32_lt, toInt_nI h]
  have : (-1 : Int32).toInt = -1 := rfl
  omega
/-- a rank that is there is not below 0 -/
theorem rk_pos {S : Mem} {ng nm nc t pa rk mo c : Nat} (h : INV S ng nm nc t pa rk mo) (hc : c < nc) (hn : S 14 0 c ≠ -1) : -1 < S 14 0 c ∧ -1 < fh S c := by
  have hcnt := h.2.2.1
  have h1 := hcnt.1.2.2
  have h2 := hcnt.2.2
  rcases h.2.2.2.2.2.2.2.2.2.2.2.2.2.2.2.1 c hc with z | ⟨r, x, z1, z2, z3, z4, z5⟩
  · exact absurd z.1 hn
  · rw [z4, z5]
    exact ⟨m1_lt (by omega), m1_lt (by omega)⟩
theorem held_pos {S : Mem} {ng nm nc t pa rk mo c : Nat} (h : INV S ng nm nc t pa rk mo) (hc : c < nc) (hh : S 9 c 4 = nI 1) : -1 < S 14 0 c ∧ -1 < fh S c := rk_pos h hc (h.2.2.2.2.2.2.2.2.2.2.2.2.2.2.2.2.2 c hc hh)
