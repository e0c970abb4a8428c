/-! the class: machines -/
def clay (S : Mem) (i : Nat) : List Nat := (List.range (ix (S 6 i 3))).map (fun j => ix (S 7 i j))
theorem clay_of {S : Mem} {i : Nat} {L : List Nat} (h : MK S i L) : clay S i = L := by
  obtain ⟨h1, h2, h3⟩ := h
  unfold clay
  rw [h1, ix_nI (by omega)]
  refine List.ext_getElem (by simp) (fun j a b => ?_)
  have hj : j < L.length := b
  obtain ⟨e1, e2⟩ := h3 j hj
  simp only [List.getElem_map, List.getElem_range]
  rw [e1, ix_nI (by omega), List.getD_eq_getElem?_getD, List.getElem?_eq_getElem hj]
  rfl
def cSt (nc pa : Nat) (q : Mem × Nat × Nat) (i : Nat) : Mem × Nat × Nat :=
  match cNear q.1 nc i (clay q.1 i) with
  | some j => (cBackAt q.1 nc i ((clay q.1 i).getD j 0), q.2.1, q.2.2 + 1)
  | none => bif decide (q.1 0 0 0 < q.1 6 i 2) then q else bif decide (pa ≤ q.2.1) then q else bif decide (cFar q.1 i (clay q.1 i) ≠ 0) then (cTake q.1 i (clay q.1 i), q.2.1 + 1, q.2.2 + 1) else q
def cSts (nc pa : Nat) (q : Mem × Nat × Nat) : Nat → Mem × Nat × Nat
  | 0 => q
  | n + 1 => cSt nc pa (cSts nc pa q n) n
theorem cTake_fr {S : Mem} {i k : Nat} {L : List Nat} (h : k ≠ 8) (j : Nat) : cTake S i L k j = S k j := by
  unfold cTake
  cases cFar S i L with
  | zero => rfl
  | succ n => exact uS_n (fun z => h z.1)
theorem cSt_fr {nc pa : Nat} {q : Mem × Nat × Nat} {i k : Nat} (h : k ≠ 8) (j : Nat) : (cSt nc pa q i).1 k j = q.1 k j := by
  unfold cSt
  cases cNear q.1 nc i (clay q.1 i) with
  | some a => exact uS_n (fun z => h z.1)
  | none =>
    dsimp only
    cases decide (q.1 0 0 0 < q.1 6 i 2) with
    | true => rfl
    | false =>
      cases decide (pa ≤ q.2.1) with
      | true => rfl
      | false =>
        cases decide (cFar q.1 i (clay q.1 i) ≠ 0) with
        | true => exact cTake_fr h j
        | false => rfl
theorem cSts_fr {nc pa : Nat} {q : Mem × Nat × Nat} {k : Nat} (h : k ≠ 8) (j : Nat) : ∀ n, (cSts nc pa q n).1 k j = q.1 k j
  | 0 => rfl
  | n + 1 => by rw [cSts, cSt_fr h, cSts_fr h j n]
theorem cSt_le {nc pa : Nat} {q : Mem × Nat × Nat} {i : Nat} (h : q.2.1 ≤ pa) : (cSt nc pa q i).2.1 ≤ pa := by
  unfold cSt
  cases cNear q.1 nc i (clay q.1 i) with
  | some a => exact h
  | none =>
    dsimp only
    cases decide (q.1 0 0 0 < q.1 6 i 2) with
    | true => exact h
    | false =>
      cases hp : decide (pa ≤ q.2.1) with
      | true => exact h
      | false =>
        have := of_decide_eq_false hp
        cases decide (cFar q.1 i (clay q.1 i) ≠ 0) with
        | true => show q.2.1 + 1 ≤ pa; omega
        | false => exact h
def cDay (S : Mem) (nc nm pa : Nat) : Mem × Nat := ((cSts nc pa (S, 0, 0) nm).1, (cSts nc pa (S, 0, 0) nm).2.2)
def cBusy (S : Mem) (nm : Nat) : Bool := anyB (fun i => decide (S 0 0 0 < S 6 i 2)) nm
def cPassN (nc nm pa : Nat) : Nat → Mem × Nat → Mem × Nat
  | 0, q => q
  | n + 1, q =>
    let r := cDay (uM q.1 0 0 0 (q.1 0 0 0 + nI 1)) nc nm pa
    bif decide (r.2 = 0) && !cBusy r.1 nm then (uM r.1 0 0 0 (r.1 0 0 0 + nI n), q.2 + r.2) else cPassN nc nm pa n (r.1, q.2 + r.2)
/-- what a class's memory is always like, as to safety -/
def KI (S : Mem) (ng nm nc t pa : Nat) : Prop :=
  (S 0 0 5 = nI ng ∧ 1 ≤ ng ∧ ng ≤ 10) ∧ (S 0 0 7 = nI nm ∧ nm ≤ 12) ∧ (S 0 0 9 = nI nc ∧ nc ≤ 40) ∧ (S 0 0 0 = nI t ∧ t < 2 ^ 20) ∧ (S 0 0 1 = nI pa ∧ pa ≤ 12) ∧ PAR (S 1 1) ng ∧ (∀ i, i < nm → MK S i (clay S i)) ∧ (∀ c, c < nc → ∃ q, q < 132 ∧ S 9 c 1 = nI q) ∧ (∀ i, i < 12 → S 6 i 0 = nI (10 + i))
theorem clay_fr {S T : Mem} {i : Nat} (h6 : T 6 i = S 6 i) (h7 : T 7 i = S 7 i) : clay T i = clay S i := by unfold clay; rw [h6, h7]
theorem MK_fr {S T : Mem} {i : Nat} {L : List Nat} (h6 : T 6 i = S 6 i) (h7 : T 7 i = S 7 i) (h : MK S i L) : MK T i L := by unfold MK; rw [h6, h7]; exact h
theorem KI_8 {S T : Mem} {ng nm nc t pa : Nat} (h : KI S ng nm nc t pa) (hf : ∀ k i, k ≠ 8 → T k i = S k i) : KI T ng nm nc t pa := by
  have e0 := hf 0 0 (by decide)
  obtain ⟨a1, a2, a3, a4, a5, a6, a7, a8, a9⟩ := h
  refine ⟨by rw [e0]; exact a1, by rw [e0]; exact a2, by rw [e0]; exact a3, by rw [e0]; exact a4, by rw [e0]; exact a5, by rw [hf 1 1 (by decide)]; exact a6, fun i hi => ?_, fun c hc => by rw [hf 9 c (by decide)]; exact a8 c hc, fun i hi => by rw [hf 6 i (by decide)]; exact a9 i hi⟩
  rw [clay_fr (hf 6 i (by decide)) (hf 7 i (by decide))]
  exact MK_fr (hf 6 i (by decide)) (hf 7 i (by decide)) (a7 i hi)
theorem KI_sts {S : Mem} {ng nm nc t pa : Nat} {q : Mem × Nat × Nat} (h : KI q.1 ng nm nc t pa) (n : Nat) : KI (cSts nc pa q n).1 ng nm nc t pa := KI_8 h (fun k i hk => cSts_fr hk i n)
def dpV (S : Mem) (i : Nat) (L : List Nat) (n : Nat) : Nat → Int32 := fun q => if q < n * 6 ∧ q / 6 ∉ L then -1 else S 8 i q
theorem dpV_0 {S : Mem} {i : Nat} {L : List Nat} : dpV S i L 0 = S 8 i := by
  funext q
  unfold dpV
  rw [if_neg (by omega)]
theorem dpV_in {S : Mem} {i n : Nat} {L : List Nat} (h : n ∈ L) : dpV S i L (n + 1) = dpV S i L n := by
  funext q
  unfold dpV
  by_cases h2 : q < n * 6 ∧ q / 6 ∉ L
  · rw [if_pos h2, if_pos ⟨by omega, h2.2⟩]
  · rw [if_neg h2, if_neg (fun z => ?_)]
    rcases Nat.lt_or_ge q (n * 6) with y | y
    · exact h2 ⟨y, z.2⟩
    · exact z.2 (by rw [show q / 6 = n by omega]; exact h)
theorem dpV_out {S : Mem} {i n : Nat} {L : List Nat} (h : n ∉ L) : ovl (dpV S i L n) (n * 6) 6 (fun _ => -1) = dpV S i L (n + 1) := by
  funext q
  unfold ovl dpV
  by_cases h1 : n * 6 ≤ q ∧ q < n * 6 + 6
  · rw [if_pos h1, if_pos ⟨by omega, by rw [show q / 6 = n by omega]; exact h⟩]
  · rw [if_neg h1]
    by_cases h2 : q < n * 6 ∧ q / 6 ∉ L
    · rw [if_pos h2, if_pos ⟨by omega, h2.2⟩]
    · rw [if_neg h2, if_neg (fun z => h2 ⟨by omega, z.2⟩)]
theorem MK_any {S : Mem} {i n : Nat} {L : List Nat} (h : MK S i L) (hn : n < 2 ^ 31) : anyB (fun j => decide (S 7 i j = nI n)) L.length = decide (n ∈ L) := by
  rw [Bool.eq_iff_iff, anyB_t, decide_eq_true_iff]
  constructor
  · rintro ⟨k, hk, e⟩
    obtain ⟨a1, a2⟩ := h.2.2 k hk
    have e2 := of_decide_eq_true e
    rw [a1] at e2
    have := (nI_eq (by omega) hn).mp e2
    rw [← this, List.getD_eq_getElem?_getD, List.getElem?_eq_getElem hk]
    exact List.getElem_mem hk
  · intro hm
    obtain ⟨k, hk, e⟩ := List.mem_iff_getElem.mp hm
    refine ⟨k, hk, decide_eq_true ?_⟩
    rw [(h.2.2 k hk).1, List.getD_eq_getElem?_getD, List.getElem?_eq_getElem hk]
    show nI L[k] = nI n
    rw [e]
/-- a machine's fields and layers, when it has entered a group -/
def EM (S : Mem) (i : Nat) (g : Int32) (v : Nat → Int32) (n : Nat) : Mem := uM (uS (uM S 6 i 1 g) 7 i (ovl (S 7 i) 0 n v)) 6 i 3 (nI n)
theorem uS_ap {S : Mem} {k i : Nat} {f : Nat → Int32} {a b : Nat} : uS S k i f a b = if a = k ∧ b = i then f else S a b := rfl
theorem EM_7 {S : Mem} {i n : Nat} {g : Int32} {v : Nat → Int32} : EM S i g v n 7 i = ovl (S 7 i) 0 n v := by
  unfold EM uM
  rw [uS_n (by simp), uS_s]
theorem EM_1 {S : Mem} {i : Nat} {g : Int32} {v : Nat → Int32} {x : Int32} (h : x = v 0) : uM (uM (uM S 6 i 1 g) 7 i 0 x) 6 i 3 (nI 1) = EM S i g v 1 := by
  unfold EM
  congr 1
  rw [show uM (uM S 6 i 1 g) 7 i 0 x = uS (uM S 6 i 1 g) 7 i (upd (S 7 i) 0 x) from rfl, h, ← ovl0_s, ovl_0]
theorem EM_s {S : Mem} {i n : Nat} {g : Int32} {v : Nat → Int32} : uM (uM (EM S i g v n) 7 i n (v n)) 6 i 3 (nI (n + 1)) = EM S i g v (n + 1) := by
  unfold EM
  rw [← ovl0_s]
  funext a b c
  simp only [uM_ap, uS_ap, upd]
  by_cases h6 : a = 6
  · subst h6
    by_cases hb : b = i ∧ c = 3 <;> simp [hb]
  · by_cases h7 : a = 7
    · subst h7
      by_cases hb : b = i
      · subst hb; simp; rfl
      · simp [hb]
    · simp [h6, h7]
theorem EM_0 {S : Mem} {i : Nat} {g : Int32} {v : Nat → Int32} : uM (uM S 6 i 1 g) 6 i 3 (nI 0) = EM S i g v 0 := by
  unfold EM
  have e : uM S 6 i 1 g 7 i = S 7 i := uS_n (by simp)
  rw [ovl_0, ← e, uS_self]
theorem EM_01 {S : Mem} {i : Nat} {g x : Int32} {v : Nat → Int32} (h : x = v 0) : uM (uM (uM (uM S 6 i 1 g) 6 i 3 (nI 0)) 7 i 0 x) 6 i 3 (nI (0 + 1)) = EM S i g v (1 + 0) := by
  rw [EM_0 (v := v), h]
  exact EM_s
theorem uS_uS {S : Mem} {k i : Nat} {f g : Nat → Int32} : uS (uS S k i f) k i g = uS S k i g := by
  funext a b
  unfold uS
  by_cases h : a = k ∧ b = i
  · rw [if_pos h, if_pos h]
  · rw [if_neg h, if_neg h, if_neg h]
theorem pth_last {par : Nat → Int32} {ng : Nat} (hp : PAR par ng) (hng : ng ≤ 10) : ∀ (n g j : Nat), g < n → g < ng → j < (pth par g).length → 0 < (pth par g).getD j 0 → j + 1 < (pth par g).length
  | 0, g, j, h, _, _, _ => by omega
  | n + 1, g, j, h, hg, hj, h0 => by
    rcases Nat.eq_zero_or_pos g with rfl | hg0
    · rw [pth_0] at h0 hj
      cases j with
      | zero => exact absurd h0 (by decide)
      | succ j => simp at hj
    · obtain ⟨h', e1, e2⟩ := hp.2 g hg0 hg
      rw [pth_s hp hng hg0 hg e2 e1] at h0 hj ⊢
      cases j with
      | zero =>
        have := (pth_len hp hng n h' (by omega) (by omega)).1
        rw [List.length_cons]; omega
      | succ j =>
        have := pth_last hp hng n h' j (by omega) (by omega) (by simpa using hj) h0
        rw [List.length_cons]; omega
