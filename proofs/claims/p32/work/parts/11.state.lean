/-! THE STATE: one memory of ints by role and place; what each role's cell is -/
def qlen (i : Nat) : Nat := match i with
  | 0 => 12 | 1 => 10 | 2 => 60 | 3 => 60 | 4 => 60 | 5 => 24 | _ => 4
def xlen (i : Nat) : Nat := match i with
  | 0 => 4 | 1 => 10 | _ => 6
def CNT (k : Nat) : Nat := match k with
  | 0 => 1 | 1 => 3 | 2 => 1 | 3 => 1 | 4 => 1 | 5 => 8 | 6 => 12 | 7 => 12 | 8 => 12 | 9 => 40 | 10 => 40 | 11 => 40 | 12 => 2 | 13 => 2 | 14 => 2 | 15 => 1 | 16 => 3 | 20 => 12 | 21 => 2 | 22 => 7 | _ => 0
def cellOf (ad : Nat → Nat → Nat) (ca : Nat → ClassId) (k i : Nat) (f : Nat → Int32) : va_E := match k with
  | 0 => .inr (5, [.int (f 0), .int (f 1), .ref (ad 1 0), .ref (ad 2 0), .ref (ad 1 1), .int (f 5), .ref (ad 3 0), .int (f 7), .ref (ad 4 0), .int (f 9), .int (f 10), .int (f 11), .ref (ad 1 2), .ref (ad 12 0), .ref (ad 12 1), .ref (ad 15 0)])
  | 1 => .inl (ca 0, xlen i, .inl f)
  | 2 => .inl (ca 1, 8, .inr (.inr (.inr (.inr (fun j => some (ad 5 j))))))
  | 3 => .inl (ca 2, 12, .inr (.inr (.inr (.inr (fun j => some (ad 6 j))))))
  | 4 => .inl (ca 3, 40, .inr (.inr (.inr (.inr (fun j => some (ad 9 j))))))
  | 5 => .inr (4, [.int (f 0), .int (f 1), .int (f 2), .int (f 3)])
  | 6 => .inr (2, [.int (f 0), .int (f 1), .int (f 2), .int (f 3), .ref (ad 20 i), .ref (ad 7 i)])
  | 7 => .inl (ca 0, 11, .inl f)
  | 8 => .inl (ca 0, 132, .inl f)
  | 9 => .inr (0, [.int (f 0), .int (f 1), .int (f 2), .int (f 3), .int (f 4), .int (f 5), .ref (ad 10 i), .ref (ad 11 i)])
  | 10 => .inl (ca 0, 8, .inl f)
  | 11 => .inl (ca 0, 8, .inl f)
  | 12 => .inr (1, [.ref (ad 21 i), .ref (ad 14 i)])
  | 13 => .inl (ca 0, 132, .inl f)
  | 14 => .inl (ca 0, 40, .inl f)
  | 15 => .inr (3, [.ref (ad 16 0), .ref (ad 16 1), .ref (ad 16 2), .int (f 3)])
  | 16 => .inl (ca 0, 6, .inl f)
  | 22 => .inl (ca 0, qlen i, .inl f)
  | 20 => .inr (6, [.ref (ad 8 i)])
  | 21 => .inr (6, [.ref (ad 13 i)])
  | _ => .inl (ca 0, 0, .inl f)
def SH (ad : Nat → Nat → Nat) (ca : Nat → ClassId) (S : Mem) : Rl := fun k i => cellOf ad ca k i (S k i)
def uS (S : Mem) (k i : Nat) (f : Nat → Int32) : Mem := fun k' i' => if k' = k ∧ i' = i then f else S k' i'
def uM (S : Mem) (k i j : Nat) (x : Int32) : Mem := uS S k i (upd (S k i) j x)
theorem uS_s {S : Mem} {k i : Nat} {f : Nat → Int32} : uS S k i f k i = f := by simp [uS]
theorem uS_n {S : Mem} {k i k' i' : Nat} {f : Nat → Int32} (h : ¬ (k' = k ∧ i' = i)) : uS S k i f k' i' = S k' i' := if_neg h
theorem uM_ap {S : Mem} {k i j : Nat} {x : Int32} {k' i' j' : Nat} : uM S k i j x k' i' j' = if k' = k ∧ i' = i ∧ j' = j then x else S k' i' j' := by
  unfold uM uS
  by_cases h : k' = k ∧ i' = i
  · obtain ⟨rfl, rfl⟩ := h
    simp [upd]
  · rw [if_neg h, if_neg (fun z => h ⟨z.1, z.2.1⟩)]
theorem uM_s {S : Mem} {k i j : Nat} {x : Int32} : uM S k i j x k i j = x := by simp [uM_ap]
theorem uM_n {S : Mem} {k i j k' i' j' : Nat} {x : Int32} (h : ¬ (k' = k ∧ i' = i ∧ j' = j)) : uM S k i j x k' i' j' = S k' i' j' := by rw [uM_ap, if_neg h]
theorem SH_put {ad : Nat → Nat → Nat} {ca : Nat → ClassId} {S : Mem} {k i : Nat} {f : Nat → Int32} : uE (SH ad ca S) k i (cellOf ad ca k i f) = SH ad ca (uS S k i f) := by
  funext k' i'
  unfold SH uS uE
  by_cases h : k' = k ∧ i' = i
  · obtain ⟨rfl, rfl⟩ := h
    simp
  · rw [if_neg h, if_neg h]
/-- what a method answers, and the memory behind it -/
def PR (ad : Nat → Nat → Nat) (ca : Nat → ClassId) (r : Int32) (S : Mem) : Int32 → Rl → Prop := fun r' E' => r' = r ∧ E' = SH ad ca S
def PM (ad : Nat → Nat → Nat) (ca : Nat → ClassId) (S : Mem) : Rl → Prop := fun E' => E' = SH ad ca S
def bI (b : Bool) : Int32 := if b then nI 1 else nI 0
theorem bI_t : bI true = nI 1 := rfl
theorem bI_f : bI false = nI 0 := rfl
theorem nar_b (b : Bool) : narrow .boolean (.int (bI b)) = .int (bI b) := by cases b <;> rfl
theorem nar_1 : narrow .boolean (.int (nI 1)) = .int (nI 1) := rfl
theorem nar_0 : narrow .boolean (.int (nI 0)) = .int (nI 0) := rfl
theorem bI_0 {b : Bool} : bI b = 0 ↔ b = false := by cases b <;> simp [bI, nI]
theorem bI_n0 {b : Bool} : bI b ≠ 0 ↔ b = true := by cases b <;> simp [bI, nI]
theorem bI_1 {b : Bool} : bI b = nI 1 ↔ b = true := by cases b <;> simp [bI, nI]
section GS
variable {p : Program} {l : Launch} {e : Env} {R : Room} {s : State} {m : MethodId} {args : Array Value} {below : List Frame} {meth : Method} {c : Code} {D : va_G} {ad : Nat → Nat → Nat} {A : Nat → Prop} {nL : Nat} {Q : State → Prop} {cells slots : Nat} {cn : Nat → Nat} {E : Rl} {S : Mem} {lvs : List (Nat × Value)} {st : List Value} {cc : ByteArray} {own : String} {ca : Nat → ClassId} {SR : List (String × Nat × String)} {pc : Nat}
theorem s_eq (S' : Mem) (h : S = S') (k : G p l e R s m args below meth c D ad A nL Q cells slots cn (SH ad ca S') pc lvs st) : G p l e R s m args below meth c D ad A nL Q cells slots cn (SH ad ca S) pc lvs st := by subst h; exact k
theorem s_put (hB : MB p s m args meth c cc own nL D ca SR A) {C : String} {T : u_T} {N ci idx : Nat} (hin : ∀ w ∈ u_ws C T N, w ∈ Tw) (hc : vwCl[ci]? = some (C, T, N)) (ty0 : Nat → FieldType) (hty : ∀ k, k < N → parseFieldDescriptor (T k).2.2.1 = some (ty0 k)) (hnm : ∀ a, a < N → ∀ b, b < N → a ≠ b → (T a).2.1 ≠ (T b).2.1) (k i j : Nat) {fs : List Value} {x : Int32} (hi : i < cn k) (hj : j < N) (hE : cellOf ad ca k i (S k i) = .inr (ci, fs)) (hE' : cellOf ad ca k i (upd (S k i) j x) = .inr (ci, fs.set j (.int x))) (hlink : Cond.fieldLink own idx (T j).1 (T j).2.1 (T j).2.2.1 ∈ Tw) (hfin : (T j).2.2.2 = false) (hn : narrow (ty0 j) (.int x) = .int x) (hfit : fits (ty0 j) (.int x) = true) (hl : j < fs.length) (hdg : decode cc pc = .ok (.putfield idx, 3))
    (kk : G p l e R s m args below meth c D ad A nL Q cells slots cn (SH ad ca (uM S k i j x)) (pc + 3) lvs st) : G p l e R s m args below meth c D ad A nL Q cells slots cn (SH ad ca S) pc lvs (.int x :: .ref (ad k i) :: st) := by
  refine g_put hB hin hc ty0 hty hnm k i j hi hj hE hlink hfin hn hfit hl hdg ?_
  rw [← hE', SH_put]
  exact kk
theorem s_iast (hB : MB p s m args meth c cc own nL D ca SR A) (k i j : Nat) {n : Nat} {x : Int32} (hi : i < cn k) (hE : ∀ f, cellOf ad ca k i f = .inl (ca 0, n, .inl f)) (hj : j < n) (hn : n < 2 ^ 31) (hdg : decode cc pc = .ok (.iastore, 1))
    (kk : G p l e R s m args below meth c D ad A nL Q cells slots cn (SH ad ca (uM S k i j x)) (pc + 1) lvs st) : G p l e R s m args below meth c D ad A nL Q cells slots cn (SH ad ca S) pc lvs (.int x :: .int (nI j) :: .ref (ad k i) :: st) := by
  refine g_iast hB k i j hi (hE (S k i)) hj hn hdg ?_
  rw [← hE, SH_put]
  exact kk
/-! compares of numbers nI -/
theorem n_icmp_lt (hB : MB p s m args meth c cc own nL D ca SR A) (a b : Nat) {off : Int} (tgt : Nat) (hdg : decode cc pc = .ok (.if_icmp .lt off, 3)) (ht : (pc : Int) + off = (tgt : Int)) (ha : a < 2 ^ 31) (hb : b < 2 ^ 31) (kt : a < b → G p l e R s m args below meth c D ad A nL Q cells slots cn E tgt lvs st) (kf : b ≤ a → G p l e R s m args below meth c D ad A nL Q cells slots cn E (pc + 3) lvs st) : G p l e R s m args below meth c D ad A nL Q cells slots cn E pc lvs (.int (nI b) :: .int (nI a) :: st) :=
  g_icmp_lt hB tgt hdg ht (fun z => kt ((nI_ltI ha hb).mp z)) (fun z => kf (Nat.le_of_not_lt fun y => z ((nI_ltI ha hb).mpr y)))
theorem n_icmp_ge (hB : MB p s m args meth c cc own nL D ca SR A) (a b : Nat) {off : Int} (tgt : Nat) (hdg : decode cc pc = .ok (.if_icmp .ge off, 3)) (ht : (pc : Int) + off = (tgt : Int)) (ha : a < 2 ^ 31) (hb : b < 2 ^ 31) (kt : b ≤ a → G p l e R s m args below meth c D ad A nL Q cells slots cn E tgt lvs st) (kf : a < b → G p l e R s m args below meth c D ad A nL Q cells slots cn E (pc + 3) lvs st) : G p l e R s m args below meth c D ad A nL Q cells slots cn E pc lvs (.int (nI b) :: .int (nI a) :: st) :=
  g_icmp_ge hB tgt hdg ht (fun z => kt ((nI_leI hb ha).mp z)) (fun z => kf (Nat.lt_of_not_le fun y => z ((nI_leI hb ha).mpr y)))
theorem n_icmp_gt (hB : MB p s m args meth c cc own nL D ca SR A) (a b : Nat) {off : Int} (tgt : Nat) (hdg : decode cc pc = .ok (.if_icmp .gt off, 3)) (ht : (pc : Int) + off = (tgt : Int)) (ha : a < 2 ^ 31) (hb : b < 2 ^ 31) (kt : b < a → G p l e R s m args below meth c D ad A nL Q cells slots cn E tgt lvs st) (kf : a ≤ b → G p l e R s m args below meth c D ad A nL Q cells slots cn E (pc + 3) lvs st) : G p l e R s m args below meth c D ad A nL Q cells slots cn E pc lvs (.int (nI b) :: .int (nI a) :: st) :=
  g_icmp_gt hB tgt hdg ht (fun z => kt ((nI_ltI hb ha).mp z)) (fun z => kf (Nat.le_of_not_lt fun y => z ((nI_ltI hb ha).mpr y)))
theorem n_icmp_le (hB : MB p s m args meth c cc own nL D ca SR A) (a b : Nat) {off : Int} (tgt : Nat) (hdg : decode cc pc = .ok (.if_icmp .le off, 3)) (ht : (pc : Int) + off = (tgt : Int)) (ha : a < 2 ^ 31) (hb : b < 2 ^ 31) (kt : a ≤ b → G p l e R s m args below meth c D ad A nL Q cells slots cn E tgt lvs st) (kf : b < a → G p l e R s m args below meth c D ad A nL Q cells slots cn E (pc + 3) lvs st) : G p l e R s m args below meth c D ad A nL Q cells slots cn E pc lvs (.int (nI b) :: .int (nI a) :: st) :=
  g_icmp_le hB tgt hdg ht (fun z => kt ((nI_leI ha hb).mp z)) (fun z => kf (Nat.lt_of_not_le fun y => z ((nI_leI ha hb).mpr y)))
theorem n_icmp_eq (hB : MB p s m args meth c cc own nL D ca SR A) (a b : Nat) {off : Int} (tgt : Nat) (hdg : decode cc pc = .ok (.if_icmp .eq off, 3)) (ht : (pc : Int) + off = (tgt : Int)) (ha : a < 2 ^ 31) (hb : b < 2 ^ 31) (kt : a = b → G p l e R s m args below meth c D ad A nL Q cells slots cn E tgt lvs st) (kf : a ≠ b → G p l e R s m args below meth c D ad A nL Q cells slots cn E (pc + 3) lvs st) : G p l e R s m args below meth c D ad A nL Q cells slots cn E pc lvs (.int (nI b) :: .int (nI a) :: st) :=
  g_icmp_eq hB tgt hdg ht (fun z => kt ((nI_eq ha hb).mp z)) (fun z => kf fun y => z ((nI_eq ha hb).mpr y))
theorem n_icmp_ne (hB : MB p s m args meth c cc own nL D ca SR A) (a b : Nat) {off : Int} (tgt : Nat) (hdg : decode cc pc = .ok (.if_icmp .ne off, 3)) (ht : (pc : Int) + off = (tgt : Int)) (ha : a < 2 ^ 31) (hb : b < 2 ^ 31) (kt : a ≠ b → G p l e R s m args below meth c D ad A nL Q cells slots cn E tgt lvs st) (kf : a = b → G p l e R s m args below meth c D ad A nL Q cells slots cn E (pc + 3) lvs st) : G p l e R s m args below meth c D ad A nL Q cells slots cn E pc lvs (.int (nI b) :: .int (nI a) :: st) :=
  g_icmp_ne hB tgt hdg ht (fun z => kt fun y => z ((nI_eq ha hb).mpr y)) (fun z => kf ((nI_eq ha hb).mp z))
theorem b_if_eq (hB : MB p s m args meth c cc own nL D ca SR A) (b : Bool) {off : Int} (tgt : Nat) (hdg : decode cc pc = .ok (.ifCond .eq off, 3)) (ht : (pc : Int) + off = (tgt : Int)) (kt : b = false → G p l e R s m args below meth c D ad A nL Q cells slots cn E tgt lvs st) (kf : b = true → G p l e R s m args below meth c D ad A nL Q cells slots cn E (pc + 3) lvs st) : G p l e R s m args below meth c D ad A nL Q cells slots cn E pc lvs (.int (bI b) :: st) :=
  g_if_eq hB tgt hdg ht (fun z => kt (bI_0.mp z)) (fun z => kf (bI_n0.mp z))
theorem b_if_ne (hB : MB p s m args meth c cc own nL D ca SR A) (b : Bool) {off : Int} (tgt : Nat) (hdg : decode cc pc = .ok (.ifCond .ne off, 3)) (ht : (pc : Int) + off = (tgt : Int)) (kt : b = true → G p l e R s m args below meth c D ad A nL Q cells slots cn E tgt lvs st) (kf : b = false → G p l e R s m args below meth c D ad A nL Q cells slots cn E (pc + 3) lvs st) : G p l e R s m args below meth c D ad A nL Q cells slots cn E pc lvs (.int (bI b) :: st) :=
  g_if_ne hB tgt hdg ht (fun z => kt (bI_n0.mp z)) (fun z => kf (bI_0.mp z))
theorem n_if_lt (hB : MB p s m args meth c cc own nL D ca SR A) (a : Nat) {off : Int} {tgt : Nat} (hdg : decode cc pc = .ok (.ifCond .lt off, 3)) (ht : (pc : Int) + off = (tgt : Int)) (ha : a < 2 ^ 31) (kf : G p l e R s m args below meth c D ad A nL Q cells slots cn E (pc + 3) lvs st) : G p l e R s m args below meth c D ad A nL Q cells slots cn E pc lvs (.int (nI a) :: st) :=
  g_if_lt hB tgt hdg ht (fun z => absurd z (nI_pos ha)) (fun _ => kf)
end GS
