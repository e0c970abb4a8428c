/-! the law's arrays beside the ghost -/
def s10 (s : Nat) : Nat := if s = 4 then 10 else s
def s4 (s : Nat) : Nat := if s = 10 then 4 else s
def pl7 (p : Nat) : Nat := if p < 4 then p else 96 + p
def oP : Option Nat → Nat
  | none => 0
  | some c => c + 1
def LQ (S : Mem) (ng nm nc t pa rk : Nat) : Prop := (S 22 0 0 = nI t ∧ S 22 0 1 = nI pa ∧ S 22 0 2 = nI ng ∧ S 22 0 3 = nI nm ∧ S 22 0 4 = nI nc ∧ S 22 0 5 = nI rk) ∧ 1 ≤ ng ∧ ng ≤ 4 ∧ nm ≤ 3 ∧ nc ≤ 12 ∧ t < 2 ^ 20 ∧ rk < 2 ^ 20 ∧ pa ≤ 12
def LD (S : Mem) : Prop := ∀ i, i < 4 → S 22 0 (6 + i) = S 18 0 i
def LG (S : Mem) : Prop := ∀ p, p < 5 → (S 18 1 p = 0 ∨ S 18 1 p = nI 1 ∨ S 18 1 p = nI 2) ∧ cntI (S 22 0 10) (nI p) = decide (S 18 1 p ≠ 0) ∧ cntI (S 22 0 11) (nI p) = decide (S 18 1 p = nI 2)
def LN (S : Mem) (ng nm t : Nat) : Prop := (∀ g, g < ng → S 22 1 g = S 18 2 g) ∧ (∀ m, m < nm → S 22 1 (4 + m) = S 18 3 m) ∧ ∀ m, m < 3 → ∃ u v, u < 2 ^ 21 ∧ v < 2 ^ 21 ∧ S 22 1 (7 + m) = nI u ∧ S 18 4 m = nI v ∧ (u = v ∨ (u ≤ t ∧ v ≤ t))
def LT (S : Mem) (nc : Nat) : Prop := ∀ m, m < 3 → ∀ s, s ≤ 4 → ∀ k, k < 4 → (S 18 5 (6 * (11 * m + s10 s) + k) = -1 ∧ S 22 2 (20 * m + 4 * s + k) = nI 0) ∨ ∃ c, c < nc ∧ S 18 5 (6 * (11 * m + s10 s) + k) = nI c ∧ S 22 2 (20 * m + 4 * s + k) = nI (c + 1)
def LZ (S : Mem) : Prop := ∀ m, m < 12 → ∀ s, s ≤ 10 → ∀ k, k < 6 → (3 ≤ m ∨ (4 ≤ s ∧ s ≤ 9) ∨ 4 ≤ k) → S 18 5 (6 * (11 * m + s) + k) = -1
def LC1 (S : Mem) (ng nm rk c : Nat) : Prop := ∃ p k w st, p < 7 ∧ (p < 4 → p < ng) ∧ (4 ≤ p → p < 4 + nm) ∧ k < 4 ∧ w < 102 ∧ st < 4 ∧ S 22 3 (5 * c) = nI p ∧ S 18 7 c = nI (pl7 p) ∧ S 22 3 (5 * c + 1) = nI k ∧ S 18 8 c = nI k ∧ S 22 3 (5 * c + 2) = nI w ∧ S 18 10 c = nI w ∧ S 22 3 (5 * c + 3) = nI st ∧ S 18 11 c = nI st ∧ ((S 18 12 c = -1 ∧ S 22 3 (5 * c + 4) = nI 0 ∧ st ≠ 1) ∨ ∃ r, r < rk ∧ S 18 12 c = nI r ∧ S 22 3 (5 * c + 4) = nI (r + 1))
def LC (S : Mem) (ng nm nc rk : Nat) : Prop := ∀ c, c < nc → LC1 S ng nm rk c
def LCz (S : Mem) (nc : Nat) : Prop := ∀ c, nc ≤ c → c < 12 → S 22 3 (5 * c + 3) = nI 0 ∧ S 22 3 (5 * c + 4) = nI 0
def LA1 (S : Mem) (t c p : Nat) : Prop := (S 18 13 (8 * c + p) = nI 1 ∧ ∃ d, d ≤ t ∧ S 18 14 (8 * c + p) = nI d ∧ S 22 4 (5 * c + p) = nI (d + 1)) ∨ (S 18 13 (8 * c + p) ≠ nI 1 ∧ S 22 4 (5 * c + p) ≤ 0)
def LA (S : Mem) (t : Nat) : Prop := ∀ c, c < 12 → (∀ p, p < 5 → LA1 S t c p) ∧ ∀ p, 5 ≤ p → p < 8 → S 18 13 (8 * c + p) ≠ nI 1
def LB (S : Mem) (nc t : Nat) : Prop := ∀ c, c < nc → ∃ a d, a < 5 ∧ d ≤ t ∧ S 22 5 (2 * c) = nI a ∧ S 18 6 c = nI a ∧ S 22 5 (2 * c + 1) = nI d ∧ S 18 9 c = nI d
def LE (S : Mem) : Prop := ∀ k, k < 4 → ∀ o, o < 4 → cntI (S 22 6 k) (nI o) = bitI (S 18 15 k) (nI o)
def LR (S : Mem) (ng nm nc t pa rk : Nat) : Prop := LQ S ng nm nc t pa rk ∧ LD S ∧ LG S ∧ LN S ng nm t ∧ LT S nc ∧ LZ S ∧ LC S ng nm nc rk ∧ LCz S nc ∧ LA S t ∧ LB S nc t ∧ LE S
theorem LR_fr {S T : Mem} {ng nm nc t pa rk : Nat} (h : LR S ng nm nc t pa rk) (h18 : T 18 = S 18) (h22 : T 22 = S 22) : LR T ng nm nc t pa rk := by
  unfold LR LQ LD LG LN LT LZ LC LC1 LCz LA LA1 LB LE at h ⊢
  rw [h18, h22]
  exact h
/-! the best of many, told by its rank -/
theorem bN_no {ok : Nat → Bool} {rk : Nat → Int32} : ∀ {n : Nat}, (∀ d, d < n → ok d = false) → bestN ok rk n = none
  | 0, _ => rfl
  | n + 1, h => by
    unfold bestN bstep
    rw [h n (Nat.lt_succ_self n), bN_no (fun d hd => h d (by omega))]; rfl
theorem bestN_is {ok : Nat → Bool} {rk : Nat → Int32} : ∀ {n c : Nat}, c < n → ok c = true → (∀ d, d < n → ok d = true → rk d ≤ rk c) → (∀ d, d < c → ok d = true → rk d < rk c) → bestN ok rk n = some c
  | 0, c, h, _, _, _ => by omega
  | n + 1, c, hc, h1, h2, h3 => by
    unfold bestN bstep
    by_cases hn : c = n
    · subst hn
      rw [h1]
      cases hb : bestN ok rk c with
      | none => rfl
      | some d =>
        obtain ⟨b1, b2⟩ := bestN_lt hb
        dsimp only
        rw [decide_eq_true (h3 d b1 b2)]; rfl
    · rw [bestN_is (n := n) (c := c) (by omega) h1 (fun d hd => h2 d (by omega)) h3]
      dsimp only
      cases ho : ok n with
      | false => rfl
      | true => rw [decide_eq_false (Int32.not_lt.mpr (h2 n (Nat.lt_succ_self n) ho))]; rfl
/-- the law's test of a change at a rank -/
def tpB (S : Mem) (p k r c : Nat) : Bool := decide (S 22 3 (5 * c + 4) = nI r) && (decide (S 22 3 (5 * c + 3) = nI 1) && (decide (S 22 3 (5 * c) = nI p) && decide (S 22 3 (5 * c + 1) = nI k)))
theorem pl7_inj {p q : Nat} (h : pl7 p = pl7 q) : p = q := by
  unfold pl7 at h
  by_cases hp : p < 4 <;> by_cases hq : q < 4 <;> simp [hp, hq] at h <;> omega
theorem tp_ok {S : Mem} {ng nm nc t pa rk p k r c : Nat} (hQ : LQ S ng nm nc t pa rk) (hC : LC S ng nm nc rk) (hc : c < nc) (hp : p < 7) (hk : k < 4) (hr : r < 2 ^ 20) : tpB S p k (r + 1) c = true ↔ (mOkI S (nI (pl7 p)) (nI k) c = true ∧ S 18 12 c = nI r) := by
  obtain ⟨-, -, -, -, -, -, hrk, -⟩ := hQ
  obtain ⟨p', k', w, st, a1, -, -, a4, a5, a6, b1, b2, b3, b4, b5, b6, b7, b8, b9⟩ := hC c hc
  have hpl : pl7 p' < 200 ∧ pl7 p < 200 := by unfold pl7; constructor <;> split <;> omega
  unfold tpB mOkI
  rw [b1, b2, b3, b4, b7, b8]
  simp only [Bool.and_eq_true, decide_eq_true_eq]
  have e1 : (nI p' = nI p) ↔ (nI (pl7 p') = nI (pl7 p)) := by
    rw [nI_eq (by omega) (by omega), nI_eq (by omega) (by omega)]
    exact ⟨fun z => by rw [z], pl7_inj⟩
  rw [e1]
  rcases b9 with ⟨c1, c2, c3⟩ | ⟨r', c1, c2, c3⟩
  · rw [c1, c2]
    constructor
    · rintro ⟨z, -⟩
      have := (nI_eq (by omega) (by omega)).mp z
      omega
    · rintro ⟨-, z⟩
      exact absurd z.symm (m1_ne (by omega))
  · rw [c2, c3, nI_eq (by omega) (by omega), nI_eq (a := r') (b := r) (by omega) (by omega)]
    constructor
    · rintro ⟨z1, z2, z3, z4⟩
      exact ⟨⟨z2, z3, z4⟩, by omega⟩
    · rintro ⟨⟨z2, z3, z4⟩, z1⟩
      exact ⟨by omega, z2, z3, z4⟩
/-- one that is HELD for the place and key has a rank -/
theorem tp_rank {S : Mem} {ng nm nc t pa rk c : Nat} {pl k : Int32} (hQ : LQ S ng nm nc t pa rk) (hC : LC S ng nm nc rk) (hc : c < nc) (ho : mOkI S pl k c = true) : ∃ r, r < rk ∧ S 18 12 c = nI r := by
  obtain ⟨p', k', w, st, a1, -, -, a4, a5, a6, b1, b2, b3, b4, b5, b6, b7, b8, b9⟩ := hC c hc
  unfold mOkI at ho
  have h1 := of_decide_eq_true (Bool.and_eq_true_iff.mp ho).1
  rcases b9 with ⟨c1, c2, c3⟩ | ⟨r', c1, c2, c3⟩
  · rw [b8] at h1
    exact absurd ((nI_eq (by omega) (by omega)).mp h1) c3
  · exact ⟨r', c1, c2⟩
theorem tp_none {S : Mem} {ng nm nc t pa rk p k : Nat} (hQ : LQ S ng nm nc t pa rk) (hC : LC S ng nm nc rk) (hp : p < 7) (hk : k < 4) (h : ∀ r, 0 < r → r ≤ rk → ∀ d, d < nc → tpB S p k r d = false) : mTopI S nc (nI (pl7 p)) (nI k) = none := by
  have hrk := hQ.2.2.2.2.2.2.1
  refine bN_no fun d hd => ?_
  cases ho : mOkI S (nI (pl7 p)) (nI k) d with
  | false => rfl
  | true =>
    obtain ⟨r, h1, h2⟩ := tp_rank hQ hC hd ho
    have := h (r + 1) (by omega) (by omega) d hd
    rw [(tp_ok hQ hC hd hp hk (by omega)).mpr ⟨ho, h2⟩] at this
    cases this
theorem tp_some {S : Mem} {ng nm nc t pa rk p k r c : Nat} (hQ : LQ S ng nm nc t pa rk) (hC : LC S ng nm nc rk) (hp : p < 7) (hk : k < 4) (hc : c < nc) (hr : r + 1 ≤ rk) (h1 : tpB S p k (r + 1) c = true) (h2 : ∀ d, d < c → tpB S p k (r + 1) d = false) (h : ∀ r', r + 1 < r' → r' ≤ rk → ∀ d, d < nc → tpB S p k r' d = false) : mTopI S nc (nI (pl7 p)) (nI k) = some c := by
  have hrk := hQ.2.2.2.2.2.2.1
  obtain ⟨o1, o2⟩ := (tp_ok hQ hC hc hp hk (by omega)).mp h1
  refine bestN_is hc o1 (fun d hd ho => ?_) (fun d hd ho => ?_)
  · obtain ⟨r', z1, z2⟩ := tp_rank hQ hC hd ho
    rw [z2, o2, i32_le, toInt_nI (by omega), toInt_nI (by omega)]
    rcases Nat.lt_or_ge r r' with q | q
    · have := h (r' + 1) (by omega) (by omega) d hd
      rw [(tp_ok hQ hC hd hp hk (by omega)).mpr ⟨ho, z2⟩] at this
      cases this
    · omega
  · obtain ⟨r', z1, z2⟩ := tp_rank hQ hC (show d < nc by omega) ho
    rw [z2, o2, i32_lt, toInt_nI (by omega), toInt_nI (by omega)]
    rcases Nat.lt_trichotomy r r' with q | q | q
    · have := h (r' + 1) (by omega) (by omega) d (by omega)
      rw [(tp_ok hQ hC (show d < nc by omega) hp hk (by omega)).mpr ⟨ho, z2⟩] at this
      cases this
    · subst q
      have := h2 d hd
      rw [(tp_ok hQ hC (show d < nc by omega) hp hk (by omega)).mpr ⟨ho, z2⟩] at this
      cases this
    · omega
theorem plc_pl7 {m s : Nat} (hs : s ≤ 4) : plc m (s10 s) = pl7 (if s = 4 then 4 + m else s) := by
  unfold plc s10 pl7
  by_cases h : s = 4
  · rw [if_pos h, if_pos h, if_pos rfl, if_neg (by omega)]; omega
  · rw [if_neg h, if_neg h, if_neg (by omega), if_pos (by omega)]
theorem s10_s4 {s : Nat} (h : s < 4 ∨ s = 10) : s10 (s4 s) = s ∧ s4 s ≤ 4 := by
  unfold s10 s4
  rcases h with h | h
  · have h1 : ¬ s = 10 := by omega
    have h2 : ¬ s = 4 := by omega
    rw [if_neg h1, if_neg h2]; omega
  · rw [if_pos h, if_pos rfl]; omega
/-! layers, in the law's slots -/
theorem lay_lt {S : Mem} {ng nm nc t pa m i : Nat} (hR : RI S ng nm nc t pa) (h4 : ng ≤ 4) (hm : m < nm) (hi : i < (lay (S 18 2) (grp S m)).length) : (lay (S 18 2) (grp S m)).getD i 0 < 4 ∨ (lay (S 18 2) (grp S m)).getD i 0 = 10 := by
  rcases lay_in hi with e | e
  · exact Or.inr e
  · have hp := pth_len hR.2.2.2.2.2.1 hR.1.2.2 _ _ (Nat.lt_succ_self _) (RI_grp hR hm).1
    have h1 := hp.2.2.1 _ e
    have h2 := (RI_grp hR hm).1
    exact Or.inl (by omega)
theorem lay_dup {S : Mem} {ng nm nc t pa m : Nat} (hR : RI S ng nm nc t pa) (hm : m < nm) : (lay (S 18 2) (grp S m)).length ≤ ng + 1 := by
  have hp := pth_len hR.2.2.2.2.2.1 hR.1.2.2 _ _ (Nat.lt_succ_self _) (RI_grp hR hm).1
  have h2 := (RI_grp hR hm).1
  show (pth (S 18 2) (grp S m)).length + 1 ≤ _
  omega
def slV (S : Mem) (m j : Nat) : Int32 := if j < (lay (S 18 2) (grp S m)).length then nI (s4 ((lay (S 18 2) (grp S m)).getD j 0)) else -1
theorem slV_in {S : Mem} {m j : Nat} (h : j < (lay (S 18 2) (grp S m)).length) : slV S m j = nI (s4 ((lay (S 18 2) (grp S m)).getD j 0)) := if_pos h
theorem slV_out {S : Mem} {m : Nat} : slV S m (lay (S 18 2) (grp S m)).length = -1 := if_neg (by omega)
/-- the last of a path has no parent -/
theorem pth_end {par : Nat → Int32} {ng g j : Nat} (hp : PAR par ng) (hng : ng ≤ 10) (hg : g < ng) (hj : j + 1 = (pth par g).length) : par ((pth par g).getD j 0) = -1 := by
  have hin := pth_in hp hng hg (i := j) (by omega)
  rcases Nat.eq_zero_or_pos ((pth par g).getD j 0) with z | z
  · rw [z]; exact hp.1
  · have := pth_last hp hng (g + 1) g j (by omega) hg (by omega) z
    omega
theorem LQ_fr {S T : Mem} {ng nm nc t pa rk : Nat} (h : LQ S ng nm nc t pa rk) (h0 : T 22 0 = S 22 0) : LQ T ng nm nc t pa rk := by unfold LQ at h ⊢; rw [h0]; exact h
theorem LC_fr {S T : Mem} {ng nm nc rk : Nat} (h : LC S ng nm nc rk) (h18 : ∀ i, i ≠ 5 → T 18 i = S 18 i) (h3 : T 22 3 = S 22 3) : LC T ng nm nc rk := by
  unfold LC LC1 at h ⊢
  rw [h18 7 (by decide), h18 8 (by decide), h18 10 (by decide), h18 11 (by decide), h18 12 (by decide), h3]
  exact h
