section GR
variable {p : Program} {l : Launch} {e : Env} {R : Room} {s : State} {m : MethodId} {args : Array Value} {below : List Frame} {meth : Method} {c : Code} {D : va_G} {ad : Nat → Nat → Nat} {A : Nat → Prop} {nL : Nat} {Q : State → Prop} {cells slots : Nat} {cn : Nat → Nat} {E : Rl} {lvs : List (Nat × Value)} {st : List Value} {cc : ByteArray} {own : String} {ca : Nat → ClassId} {SR : List (String × Nat × String)} {pc : Nat}
theorem g_iconst (hB : MB p s m args meth c cc own nL D ca SR A) {n : Int} (v : Int32) (hdg : decode cc pc = .ok (.iconst n, 1)) (hv : Int32.ofInt n = v) (k : G p l e R s m args below meth c D ad A nL Q cells slots cn E (pc + 1) lvs (.int v :: st)) : G p l e R s m args below meth c D ad A nL Q cells slots cn E pc lvs st :=
  fun H locs ls h1 h2 h3 => lv_iconst hB.1 hB.2.1 hdg hv (k H locs ls h1 h2 h3)
theorem g_bipush (hB : MB p s m args meth c cc own nL D ca SR A) {n : Int} (v : Int32) (hdg : decode cc pc = .ok (.bipush n, 2)) (hv : (Int8.ofInt n).toInt32 = v) (k : G p l e R s m args below meth c D ad A nL Q cells slots cn E (pc + 2) lvs (.int v :: st)) : G p l e R s m args below meth c D ad A nL Q cells slots cn E pc lvs st :=
  fun H locs ls h1 h2 h3 => lv_bipush hB.1 hB.2.1 hdg hv (k H locs ls h1 h2 h3)
theorem g_sipush (hB : MB p s m args meth c cc own nL D ca SR A) {n : Int} (v : Int32) (hdg : decode cc pc = .ok (.sipush n, 3)) (hv : (Int16.ofInt n).toInt32 = v) (k : G p l e R s m args below meth c D ad A nL Q cells slots cn E (pc + 3) lvs (.int v :: st)) : G p l e R s m args below meth c D ad A nL Q cells slots cn E pc lvs st :=
  fun H locs ls h1 h2 h3 => lv_sipush hB.1 hB.2.1 hdg hv (k H locs ls h1 h2 h3)
theorem g_ldc (hB : MB p s m args meth c cc own nL D ca SR A) {idx : Nat} (v : Int32) (hct : Cond.constant own idx v ∈ Tw) (hdg : decode cc pc = .ok (.ldc idx, 2)) (k : G p l e R s m args below meth c D ad A nL Q cells slots cn E (pc + 2) lvs (.int v :: st)) : G p l e R s m args below meth c D ad A nL Q cells slots cn E pc lvs st :=
  fun H locs ls h1 h2 h3 => lv_ldc hB.1 hB.2.1 hB.2.2.2.1 (hB.2.2.2.2.1 _ hct) hdg (k H locs ls h1 h2 h3)
theorem g_iload_n (hB : MB p s m args meth c cc own nL D ca SR A) {k0 : Fin 4} (i : Nat) {x : Int32} (hdg : decode cc pc = .ok (.iload_n k0, 1)) (hi : (k0 : Nat) = i) (hl : lget lvs i = some (.int x)) (k : G p l e R s m args below meth c D ad A nL Q cells slots cn E (pc + 1) lvs (.int x :: st)) : G p l e R s m args below meth c D ad A nL Q cells slots cn E pc lvs st :=
  fun H locs ls h1 h2 h3 => lv_iload_n hB.1 hB.2.1 hdg hi (lget_at h3 hl) (k H locs ls h1 h2 h3)
theorem g_aload_n (hB : MB p s m args meth c cc own nL D ca SR A) {k0 : Fin 4} (i : Nat) {x : Nat} (hdg : decode cc pc = .ok (.aload_n k0, 1)) (hi : (k0 : Nat) = i) (hl : lget lvs i = some (.ref x)) (k : G p l e R s m args below meth c D ad A nL Q cells slots cn E (pc + 1) lvs (.ref x :: st)) : G p l e R s m args below meth c D ad A nL Q cells slots cn E pc lvs st :=
  fun H locs ls h1 h2 h3 => lv_aload_n hB.1 hB.2.1 hdg hi (lget_at h3 hl) (k H locs ls h1 h2 h3)
theorem g_iload (hB : MB p s m args meth c cc own nL D ca SR A) (i : Nat) {x : Int32} (hdg : decode cc pc = .ok (.iload i, 2)) (hl : lget lvs i = some (.int x)) (k : G p l e R s m args below meth c D ad A nL Q cells slots cn E (pc + 2) lvs (.int x :: st)) : G p l e R s m args below meth c D ad A nL Q cells slots cn E pc lvs st :=
  fun H locs ls h1 h2 h3 => lv_iload hB.1 hB.2.1 hdg (lget_at h3 hl) (k H locs ls h1 h2 h3)
theorem g_aload (hB : MB p s m args meth c cc own nL D ca SR A) (i : Nat) {x : Nat} (hdg : decode cc pc = .ok (.aload i, 2)) (hl : lget lvs i = some (.ref x)) (k : G p l e R s m args below meth c D ad A nL Q cells slots cn E (pc + 2) lvs (.ref x :: st)) : G p l e R s m args below meth c D ad A nL Q cells slots cn E pc lvs st :=
  fun H locs ls h1 h2 h3 => lv_aload hB.1 hB.2.1 hdg (lget_at h3 hl) (k H locs ls h1 h2 h3)
theorem g_istore_n (hB : MB p s m args meth c cc own nL D ca SR A) {k0 : Fin 4} (i : Nat) {x : Int32} (hdg : decode cc pc = .ok (.istore_n k0, 1)) (hi : (k0 : Nat) = i) (hn : i < nL) (k : G p l e R s m args below meth c D ad A nL Q cells slots cn E (pc + 1) (lset i (.int x) lvs) st) : G p l e R s m args below meth c D ad A nL Q cells slots cn E pc lvs (.int x :: st) :=
  fun H locs ls h1 h2 h3 => lv_istore_n hB.1 hB.2.1 hdg hi h3 hn rfl fun ls' h4 => k H locs ls' h1 h2 (lset_of h4)
theorem g_astore_n (hB : MB p s m args meth c cc own nL D ca SR A) {k0 : Fin 4} (i : Nat) {x : Nat} (hdg : decode cc pc = .ok (.astore_n k0, 1)) (hi : (k0 : Nat) = i) (hn : i < nL) (k : G p l e R s m args below meth c D ad A nL Q cells slots cn E (pc + 1) (lset i (.ref x) lvs) st) : G p l e R s m args below meth c D ad A nL Q cells slots cn E pc lvs (.ref x :: st) :=
  fun H locs ls h1 h2 h3 => lv_astore_n hB.1 hB.2.1 hdg hi h3 hn rfl fun ls' h4 => k H locs ls' h1 h2 (lset_of h4)
theorem g_istore (hB : MB p s m args meth c cc own nL D ca SR A) (i : Nat) {x : Int32} (hdg : decode cc pc = .ok (.istore i, 2)) (hn : i < nL) (k : G p l e R s m args below meth c D ad A nL Q cells slots cn E (pc + 2) (lset i (.int x) lvs) st) : G p l e R s m args below meth c D ad A nL Q cells slots cn E pc lvs (.int x :: st) :=
  fun H locs ls h1 h2 h3 => lv_istore hB.1 hB.2.1 hdg h3 hn rfl fun ls' h4 => k H locs ls' h1 h2 (lset_of h4)
theorem g_astore (hB : MB p s m args meth c cc own nL D ca SR A) (i : Nat) {x : Nat} (hdg : decode cc pc = .ok (.astore i, 2)) (hn : i < nL) (k : G p l e R s m args below meth c D ad A nL Q cells slots cn E (pc + 2) (lset i (.ref x) lvs) st) : G p l e R s m args below meth c D ad A nL Q cells slots cn E pc lvs (.ref x :: st) :=
  fun H locs ls h1 h2 h3 => lv_astore hB.1 hB.2.1 hdg h3 hn rfl fun ls' h4 => k H locs ls' h1 h2 (lset_of h4)
theorem lget_ix {L : List (Nat × Value)} {i : Nat} {v : Value} (h : lget L i = some v) : ∃ k : Nat, L[k]? = some (i, v) := List.getElem?_of_mem (lget_in h)
theorem g_iinc (hB : MB p s m args meth c cc own nL D ca SR A) {i : Nat} {n : Int} {x : Int32} (v : Int32) (hdg : decode cc pc = .ok (.iinc i n, 3)) (hl : lget lvs i = some (.int x)) (hv : x + Int32.ofInt n = v) (hn : i < nL) (k : G p l e R s m args below meth c D ad A nL Q cells slots cn E (pc + 3) (lset i (.int v) lvs) st) : G p l e R s m args below meth c D ad A nL Q cells slots cn E pc lvs st := by
  intro H locs ls h1 h2 h3
  obtain ⟨k9, hk⟩ := lget_ix hl
  exact lv_iinc hB.1 hB.2.1 hdg h3 hk hv hn rfl fun ls' h4 => k H locs ls' h1 h2 (lset_of h4)
theorem g_iadd (hB : MB p s m args meth c cc own nL D ca SR A) {x y : Int32} (hdg : decode cc pc = .ok (.iadd, 1)) (k : G p l e R s m args below meth c D ad A nL Q cells slots cn E (pc + 1) lvs (.int (x + y) :: st)) : G p l e R s m args below meth c D ad A nL Q cells slots cn E pc lvs (.int y :: .int x :: st) :=
  fun H locs ls h1 h2 h3 => lv_iadd hB.1 hB.2.1 hdg (k H locs ls h1 h2 h3)
theorem g_isub (hB : MB p s m args meth c cc own nL D ca SR A) {x y : Int32} (hdg : decode cc pc = .ok (.isub, 1)) (k : G p l e R s m args below meth c D ad A nL Q cells slots cn E (pc + 1) lvs (.int (x - y) :: st)) : G p l e R s m args below meth c D ad A nL Q cells slots cn E pc lvs (.int y :: .int x :: st) :=
  fun H locs ls h1 h2 h3 => lv_isub hB.1 hB.2.1 hdg (k H locs ls h1 h2 h3)
theorem g_imul (hB : MB p s m args meth c cc own nL D ca SR A) {x y : Int32} (hdg : decode cc pc = .ok (.imul, 1)) (k : G p l e R s m args below meth c D ad A nL Q cells slots cn E (pc + 1) lvs (.int (x * y) :: st)) : G p l e R s m args below meth c D ad A nL Q cells slots cn E pc lvs (.int y :: .int x :: st) :=
  fun H locs ls h1 h2 h3 => lv_imul hB.1 hB.2.1 hdg (k H locs ls h1 h2 h3)
theorem g_iand (hB : MB p s m args meth c cc own nL D ca SR A) {x y : Int32} (hdg : decode cc pc = .ok (.iand, 1)) (k : G p l e R s m args below meth c D ad A nL Q cells slots cn E (pc + 1) lvs (.int (x &&& y) :: st)) : G p l e R s m args below meth c D ad A nL Q cells slots cn E pc lvs (.int y :: .int x :: st) :=
  fun H locs ls h1 h2 h3 => lv_iand hB.1 hB.2.1 hdg (k H locs ls h1 h2 h3)
theorem g_ior (hB : MB p s m args meth c cc own nL D ca SR A) {x y : Int32} (hdg : decode cc pc = .ok (.ior, 1)) (k : G p l e R s m args below meth c D ad A nL Q cells slots cn E (pc + 1) lvs (.int (x ||| y) :: st)) : G p l e R s m args below meth c D ad A nL Q cells slots cn E pc lvs (.int y :: .int x :: st) :=
  fun H locs ls h1 h2 h3 => lv_ior hB.1 hB.2.1 hdg (k H locs ls h1 h2 h3)
theorem g_ixor (hB : MB p s m args meth c cc own nL D ca SR A) {x y : Int32} (hdg : decode cc pc = .ok (.ixor, 1)) (k : G p l e R s m args below meth c D ad A nL Q cells slots cn E (pc + 1) lvs (.int (x ^^^ y) :: st)) : G p l e R s m args below meth c D ad A nL Q cells slots cn E pc lvs (.int y :: .int x :: st) :=
  fun H locs ls h1 h2 h3 => lv_ixor hB.1 hB.2.1 hdg (k H locs ls h1 h2 h3)
theorem g_idiv (hB : MB p s m args meth c cc own nL D ca SR A) {x y : Int32} (hne : ¬ y = 0) (hdg : decode cc pc = .ok (.idiv, 1)) (k : G p l e R s m args below meth c D ad A nL Q cells slots cn E (pc + 1) lvs (.int (x / y) :: st)) : G p l e R s m args below meth c D ad A nL Q cells slots cn E pc lvs (.int y :: .int x :: st) :=
  fun H locs ls h1 h2 h3 => lv_idiv hB.1 hB.2.1 hdg hne (k H locs ls h1 h2 h3)
theorem g_irem (hB : MB p s m args meth c cc own nL D ca SR A) {x y : Int32} (hne : ¬ y = 0) (hdg : decode cc pc = .ok (.irem, 1)) (k : G p l e R s m args below meth c D ad A nL Q cells slots cn E (pc + 1) lvs (.int (x - x / y * y) :: st)) : G p l e R s m args below meth c D ad A nL Q cells slots cn E pc lvs (.int y :: .int x :: st) :=
  fun H locs ls h1 h2 h3 => lv_irem hB.1 hB.2.1 hdg hne (k H locs ls h1 h2 h3)
theorem g_ishl (hB : MB p s m args meth c cc own nL D ca SR A) {x y : Int32} (hdg : decode cc pc = .ok (.ishl, 1)) (k : G p l e R s m args below meth c D ad A nL Q cells slots cn E (pc + 1) lvs (.int (x <<< (y &&& 31)) :: st)) : G p l e R s m args below meth c D ad A nL Q cells slots cn E pc lvs (.int y :: .int x :: st) :=
  fun H locs ls h1 h2 h3 => lv_ishl hB.1 hB.2.1 hdg (k H locs ls h1 h2 h3)
theorem g_ishr (hB : MB p s m args meth c cc own nL D ca SR A) {x y : Int32} (hdg : decode cc pc = .ok (.ishr, 1)) (k : G p l e R s m args below meth c D ad A nL Q cells slots cn E (pc + 1) lvs (.int (x >>> (y &&& 31)) :: st)) : G p l e R s m args below meth c D ad A nL Q cells slots cn E pc lvs (.int y :: .int x :: st) :=
  fun H locs ls h1 h2 h3 => lv_ishr hB.1 hB.2.1 hdg (k H locs ls h1 h2 h3)
theorem g_iushr (hB : MB p s m args meth c cc own nL D ca SR A) {x y : Int32} (hdg : decode cc pc = .ok (.iushr, 1)) (k : G p l e R s m args below meth c D ad A nL Q cells slots cn E (pc + 1) lvs (.int ((x.toUInt32 >>> (y.toUInt32 &&& Int32.toUInt32 31)).toInt32) :: st)) : G p l e R s m args below meth c D ad A nL Q cells slots cn E pc lvs (.int y :: .int x :: st) :=
  fun H locs ls h1 h2 h3 => lv_iushr hB.1 hB.2.1 hdg rfl (k H locs ls h1 h2 h3)
theorem g_i2l (hB : MB p s m args meth c cc own nL D ca SR A) {x : Int32} (hdg : decode cc pc = .ok (.i2l, 1)) (k : G p l e R s m args below meth c D ad A nL Q cells slots cn E (pc + 1) lvs (.long x.toInt64 :: st)) : G p l e R s m args below meth c D ad A nL Q cells slots cn E pc lvs (.int x :: st) :=
  fun H locs ls h1 h2 h3 => lv_i2l hB.1 hB.2.1 hdg rfl (k H locs ls h1 h2 h3)
theorem g_lcmp (hB : MB p s m args meth c cc own nL D ca SR A) {x y : Int64} (hdg : decode cc pc = .ok (.lcmp, 1)) (k : G p l e R s m args below meth c D ad A nL Q cells slots cn E (pc + 1) lvs (.int (lg_cmp x y) :: st)) : G p l e R s m args below meth c D ad A nL Q cells slots cn E pc lvs (.long y :: .long x :: st) :=
  fun H locs ls h1 h2 h3 => W.lcmp hB.1 hB.2.1 hdg (k H locs ls h1 h2 h3)
theorem g_dup (hB : MB p s m args meth c cc own nL D ca SR A) {va : Value} (hva : va.category = 1) (hdg : decode cc pc = .ok (.dup, 1)) (k : G p l e R s m args below meth c D ad A nL Q cells slots cn E (pc + 1) lvs (va :: va :: st)) : G p l e R s m args below meth c D ad A nL Q cells slots cn E pc lvs (va :: st) :=
  fun H locs ls h1 h2 h3 => lv_dup hB.1 hB.2.1 hdg hva (k H locs ls h1 h2 h3)
theorem g_dup2 (hB : MB p s m args meth c cc own nL D ca SR A) {va vb : Value} (hva : va.category = 1) (hvb : vb.category = 1) (hdg : decode cc pc = .ok (.dup2, 1)) (k : G p l e R s m args below meth c D ad A nL Q cells slots cn E (pc + 1) lvs (va :: vb :: va :: vb :: st)) : G p l e R s m args below meth c D ad A nL Q cells slots cn E pc lvs (va :: vb :: st) :=
  fun H locs ls h1 h2 h3 => lv_dup2_11 hB.1 hB.2.1 hdg hva hvb (k H locs ls h1 h2 h3)
theorem g_lconst2 (hB : MB p s m args meth c cc own nL D ca SR A) {n : Fin 2} (v : Int64) (hdg : decode cc pc = .ok (.lconst n, 1)) (hv : Int64.ofNat (n : Nat) = v) (k : G p l e R s m args below meth c D ad A nL Q cells slots cn E (pc + 1) lvs (.long v :: st)) : G p l e R s m args below meth c D ad A nL Q cells slots cn E pc lvs st :=
  fun H locs ls h1 h2 h3 => lv_lconst hB.1 hB.2.1 hdg hv (k H locs ls h1 h2 h3)
theorem g_if_eq (hB : MB p s m args meth c cc own nL D ca SR A) {x : Int32} {off : Int} (tgt : Nat) (hdg : decode cc pc = .ok (.ifCond .eq off, 3)) (ht : (pc : Int) + off = (tgt : Int)) (kt : x = 0 → G p l e R s m args below meth c D ad A nL Q cells slots cn E tgt lvs st) (kf : ¬ (x = 0) → G p l e R s m args below meth c D ad A nL Q cells slots cn E (pc + 3) lvs st) : G p l e R s m args below meth c D ad A nL Q cells slots cn E pc lvs (.int x :: st) :=
  fun H locs ls h1 h2 h3 => lv_if_eq hB.1 hB.2.1 hdg ht (fun c => kt c H locs ls h1 h2 h3) (fun c => kf c H locs ls h1 h2 h3)
theorem g_icmp_eq (hB : MB p s m args meth c cc own nL D ca SR A) {x y : Int32} {off : Int} (tgt : Nat) (hdg : decode cc pc = .ok (.if_icmp .eq off, 3)) (ht : (pc : Int) + off = (tgt : Int)) (kt : x = y → G p l e R s m args below meth c D ad A nL Q cells slots cn E tgt lvs st) (kf : ¬ (x = y) → G p l e R s m args below meth c D ad A nL Q cells slots cn E (pc + 3) lvs st) : G p l e R s m args below meth c D ad A nL Q cells slots cn E pc lvs (.int y :: .int x :: st) :=
  fun H locs ls h1 h2 h3 => lv_icmp_eq hB.1 hB.2.1 hdg ht (fun c => kt c H locs ls h1 h2 h3) (fun c => kf c H locs ls h1 h2 h3)
theorem g_if_ne (hB : MB p s m args meth c cc own nL D ca SR A) {x : Int32} {off : Int} (tgt : Nat) (hdg : decode cc pc = .ok (.ifCond .ne off, 3)) (ht : (pc : Int) + off = (tgt : Int)) (kt : x ≠ 0 → G p l e R s m args below meth c D ad A nL Q cells slots cn E tgt lvs st) (kf : x = 0 → G p l e R s m args below meth c D ad A nL Q cells slots cn E (pc + 3) lvs st) : G p l e R s m args below meth c D ad A nL Q cells slots cn E pc lvs (.int x :: st) :=
  fun H locs ls h1 h2 h3 => lv_if_ne hB.1 hB.2.1 hdg ht (fun c => kt c H locs ls h1 h2 h3) (fun c => kf c H locs ls h1 h2 h3)
theorem g_icmp_ne (hB : MB p s m args meth c cc own nL D ca SR A) {x y : Int32} {off : Int} (tgt : Nat) (hdg : decode cc pc = .ok (.if_icmp .ne off, 3)) (ht : (pc : Int) + off = (tgt : Int)) (kt : x ≠ y → G p l e R s m args below meth c D ad A nL Q cells slots cn E tgt lvs st) (kf : x = y → G p l e R s m args below meth c D ad A nL Q cells slots cn E (pc + 3) lvs st) : G p l e R s m args below meth c D ad A nL Q cells slots cn E pc lvs (.int y :: .int x :: st) :=
  fun H locs ls h1 h2 h3 => lv_icmp_ne hB.1 hB.2.1 hdg ht (fun c => kt c H locs ls h1 h2 h3) (fun c => kf c H locs ls h1 h2 h3)
theorem g_if_lt (hB : MB p s m args meth c cc own nL D ca SR A) {x : Int32} {off : Int} (tgt : Nat) (hdg : decode cc pc = .ok (.ifCond .lt off, 3)) (ht : (pc : Int) + off = (tgt : Int)) (kt : x < 0 → G p l e R s m args below meth c D ad A nL Q cells slots cn E tgt lvs st) (kf : ¬ (x < 0) → G p l e R s m args below meth c D ad A nL Q cells slots cn E (pc + 3) lvs st) : G p l e R s m args below meth c D ad A nL Q cells slots cn E pc lvs (.int x :: st) :=
  fun H locs ls h1 h2 h3 => lv_if_lt hB.1 hB.2.1 hdg ht (fun c => kt c H locs ls h1 h2 h3) (fun c => kf c H locs ls h1 h2 h3)
theorem g_icmp_lt (hB : MB p s m args meth c cc own nL D ca SR A) {x y : Int32} {off : Int} (tgt : Nat) (hdg : decode cc pc = .ok (.if_icmp .lt off, 3)) (ht : (pc : Int) + off = (tgt : Int)) (kt : x < y → G p l e R s m args below meth c D ad A nL Q cells slots cn E tgt lvs st) (kf : ¬ (x < y) → G p l e R s m args below meth c D ad A nL Q cells slots cn E (pc + 3) lvs st) : G p l e R s m args below meth c D ad A nL Q cells slots cn E pc lvs (.int y :: .int x :: st) :=
  fun H locs ls h1 h2 h3 => lv_icmp_lt hB.1 hB.2.1 hdg ht (fun c => kt c H locs ls h1 h2 h3) (fun c => kf c H locs ls h1 h2 h3)
theorem g_if_ge (hB : MB p s m args meth c cc own nL D ca SR A) {x : Int32} {off : Int} (tgt : Nat) (hdg : decode cc pc = .ok (.ifCond .ge off, 3)) (ht : (pc : Int) + off = (tgt : Int)) (kt : 0 ≤ x → G p l e R s m args below meth c D ad A nL Q cells slots cn E tgt lvs st) (kf : ¬ (0 ≤ x) → G p l e R s m args below meth c D ad A nL Q cells slots cn E (pc + 3) lvs st) : G p l e R s m args below meth c D ad A nL Q cells slots cn E pc lvs (.int x :: st) :=
  fun H locs ls h1 h2 h3 => lv_if_ge hB.1 hB.2.1 hdg ht (fun c => kt c H locs ls h1 h2 h3) (fun c => kf c H locs ls h1 h2 h3)
theorem g_icmp_ge (hB : MB p s m args meth c cc own nL D ca SR A) {x y : Int32} {off : Int} (tgt : Nat) (hdg : decode cc pc = .ok (.if_icmp .ge off, 3)) (ht : (pc : Int) + off = (tgt : Int)) (kt : y ≤ x → G p l e R s m args below meth c D ad A nL Q cells slots cn E tgt lvs st) (kf : ¬ (y ≤ x) → G p l e R s m args below meth c D ad A nL Q cells slots cn E (pc + 3) lvs st) : G p l e R s m args below meth c D ad A nL Q cells slots cn E pc lvs (.int y :: .int x :: st) :=
  fun H locs ls h1 h2 h3 => lv_icmp_ge hB.1 hB.2.1 hdg ht (fun c => kt c H locs ls h1 h2 h3) (fun c => kf c H locs ls h1 h2 h3)
theorem g_if_gt (hB : MB p s m args meth c cc own nL D ca SR A) {x : Int32} {off : Int} (tgt : Nat) (hdg : decode cc pc = .ok (.ifCond .gt off, 3)) (ht : (pc : Int) + off = (tgt : Int)) (kt : 0 < x → G p l e R s m args below meth c D ad A nL Q cells slots cn E tgt lvs st) (kf : ¬ (0 < x) → G p l e R s m args below meth c D ad A nL Q cells slots cn E (pc + 3) lvs st) : G p l e R s m args below meth c D ad A nL Q cells slots cn E pc lvs (.int x :: st) :=
  fun H locs ls h1 h2 h3 => lv_if_gt hB.1 hB.2.1 hdg ht (fun c => kt c H locs ls h1 h2 h3) (fun c => kf c H locs ls h1 h2 h3)
theorem g_icmp_gt (hB : MB p s m args meth c cc own nL D ca SR A) {x y : Int32} {off : Int} (tgt : Nat) (hdg : decode cc pc = .ok (.if_icmp .gt off, 3)) (ht : (pc : Int) + off = (tgt : Int)) (kt : y < x → G p l e R s m args below meth c D ad A nL Q cells slots cn E tgt lvs st) (kf : ¬ (y < x) → G p l e R s m args below meth c D ad A nL Q cells slots cn E (pc + 3) lvs st) : G p l e R s m args below meth c D ad A nL Q cells slots cn E pc lvs (.int y :: .int x :: st) :=
  fun H locs ls h1 h2 h3 => lv_icmp_gt hB.1 hB.2.1 hdg ht (fun c => kt c H locs ls h1 h2 h3) (fun c => kf c H locs ls h1 h2 h3)
theorem g_if_le (hB : MB p s m args meth c cc own nL D ca SR A) {x : Int32} {off : Int} (tgt : Nat) (hdg : decode cc pc = .ok (.ifCond .le off, 3)) (ht : (pc : Int) + off = (tgt : Int)) (kt : x ≤ 0 → G p l e R s m args below meth c D ad A nL Q cells slots cn E tgt lvs st) (kf : ¬ (x ≤ 0) → G p l e R s m args below meth c D ad A nL Q cells slots cn E (pc + 3) lvs st) : G p l e R s m args below meth c D ad A nL Q cells slots cn E pc lvs (.int x :: st) :=
  fun H locs ls h1 h2 h3 => lv_if_le hB.1 hB.2.1 hdg ht (fun c => kt c H locs ls h1 h2 h3) (fun c => kf c H locs ls h1 h2 h3)
theorem g_icmp_le (hB : MB p s m args meth c cc own nL D ca SR A) {x y : Int32} {off : Int} (tgt : Nat) (hdg : decode cc pc = .ok (.if_icmp .le off, 3)) (ht : (pc : Int) + off = (tgt : Int)) (kt : x ≤ y → G p l e R s m args below meth c D ad A nL Q cells slots cn E tgt lvs st) (kf : ¬ (x ≤ y) → G p l e R s m args below meth c D ad A nL Q cells slots cn E (pc + 3) lvs st) : G p l e R s m args below meth c D ad A nL Q cells slots cn E pc lvs (.int y :: .int x :: st) :=
  fun H locs ls h1 h2 h3 => lv_icmp_le hB.1 hB.2.1 hdg ht (fun c => kt c H locs ls h1 h2 h3) (fun c => kf c H locs ls h1 h2 h3)
theorem g_goto (hB : MB p s m args meth c cc own nL D ca SR A) {off : Int} (tgt : Nat) (hdg : decode cc pc = .ok (.goto off, 3)) (ht : (pc : Int) + off = (tgt : Int)) (k : G p l e R s m args below meth c D ad A nL Q cells slots cn E tgt lvs st) : G p l e R s m args below meth c D ad A nL Q cells slots cn E pc lvs st :=
  fun H locs ls h1 h2 h3 => lv_goto hB.1 hB.2.1 hdg ht (k H locs ls h1 h2 h3)
theorem g_sub (L : List (Nat × Value)) (hL : L.map (fun q => lget lvs q.1) = L.map (fun q => some q.2)) (k : G p l e R s m args below meth c D ad A nL Q cells slots cn E pc L st) : G p l e R s m args below meth c D ad A nL Q cells slots cn E pc lvs st := by
  intro H locs ls h1 h2 h3
  refine k H locs ls h1 h2 ⟨h3.1, h3.2.1, fun q hq => ?_⟩
  obtain ⟨j, hj⟩ := List.getElem?_of_mem hq
  have e := congrArg (fun x => x[j]?) hL
  simp only [List.getElem?_map, hj, Option.map_some, Option.some.injEq] at e
  exact lget_at h3 e
theorem g_E {E' : Rl} (h : ∀ k i, i < cn k → E k i = E' k i) (k : G p l e R s m args below meth c D ad A nL Q cells slots cn E' pc lvs st) : G p l e R s m args below meth c D ad A nL Q cells slots cn E pc lvs st := fun H locs ls h1 h2 h3 => k H locs ls ⟨h1.1, h1.2.1, fun k i hi => by rw [← h k i hi]; exact h1.2.2 k i hi⟩ h2 h3
theorem g_pc {pc' : Nat} (h : pc = pc') (k : G p l e R s m args below meth c D ad A nL Q cells slots cn E pc' lvs st) : G p l e R s m args below meth c D ad A nL Q cells slots cn E pc lvs st := by subst h; exact k
theorem g_top {x : Int32} (y : Int32) (h : x = y) (k : G p l e R s m args below meth c D ad A nL Q cells slots cn E pc lvs (.int y :: st)) : G p l e R s m args below meth c D ad A nL Q cells slots cn E pc lvs (.int x :: st) := by subst h; exact k
theorem g_wide (k n : Nat) (h1 : cells ≤ k) (h2 : slots ≤ n) (kk : G p l e R s m args below meth c D ad A nL Q k n cn E pc lvs st) : G p l e R s m args below meth c D ad A nL Q cells slots cn E pc lvs st := fun H locs ls a b c => W.widen h1 h2 (kk H locs ls a b c)
theorem wp1 {E0 : Rl} {H : Heap} {k i : Nat} {x : va_E} (h : WW D ad cn A E0 H) (hi : i < cn k) (hE : E0 k i = x) : va_P D vwCl [(ad k i, x)] H := by
  intro j q hq
  have hz : j < 1 := (List.getElem?_eq_some_iff.mp hq).1
  rw [show j = 0 by omega] at hq
  cases hq
  rw [← hE]; exact h.2.2 k i hi
theorem g_get (hB : MB p s m args meth c cc own nL D ca SR A) {C : String} {T : u_T} {N ci idx : Nat} (hin : ∀ w ∈ u_ws C T N, w ∈ Tw) (hc : vwCl[ci]? = some (C, T, N)) (k i j : Nat) {fs : List Value} {v : Value} (hi : i < cn k) (hj : j < N) (hE : E k i = .inr (ci, fs)) (hlink : Cond.fieldLink own idx (T j).1 (T j).2.1 (T j).2.2.1 ∈ Tw) (hv : fs[j]? = some v) (hdg : decode cc pc = .ok (.getfield idx, 3)) (kk : G p l e R s m args below meth c D ad A nL Q cells slots cn E (pc + 3) lvs (v :: st)) : G p l e R s m args below meth c D ad A nL Q cells slots cn E pc lvs (.ref (ad k i) :: st) := by
  intro H locs ls h1 h2 h3
  exact va_get (ci := ci) hB.1 hB.2.1 hB.2.2.2.2.1 hin hB.2.2.2.1 hB.2.2.2.2.2.1.1 (wp1 h1 hi hE) 0 rfl hc j hj (hB.2.2.2.2.1 _ hlink) (fun _ h => h) hv hdg (kk H locs ls h1 h2 h3)
theorem g_put (hB : MB p s m args meth c cc own nL D ca SR A) {C : String} {T : u_T} {N ci idx : Nat} (hin : ∀ w ∈ u_ws C T N, w ∈ Tw) (hc : vwCl[ci]? = some (C, T, N)) (ty0 : Nat → FieldType) (hty : ∀ k, k < N → parseFieldDescriptor (T k).2.2.1 = some (ty0 k)) (hnm : ∀ a, a < N → ∀ b, b < N → a ≠ b → (T a).2.1 ≠ (T b).2.1) (k i j : Nat) {fs : List Value} {v : Value} (hi : i < cn k) (hj : j < N) (hE : E k i = .inr (ci, fs)) (hlink : Cond.fieldLink own idx (T j).1 (T j).2.1 (T j).2.2.1 ∈ Tw) (hfin : (T j).2.2.2 = false) (hn : narrow (ty0 j) v = v) (hfit : fits (ty0 j) v = true) (hl : j < fs.length) (hdg : decode cc pc = .ok (.putfield idx, 3)) (kk : G p l e R s m args below meth c D ad A nL Q cells slots cn (uE E k i (.inr (ci, fs.set j v))) (pc + 3) lvs st) : G p l e R s m args below meth c D ad A nL Q cells slots cn E pc lvs (v :: .ref (ad k i) :: st) := by
  intro H locs ls h1 h2 h3
  have hap := va_apart (own := own) hB.2.2.2.2.1 hin ty0 hty hnm hB.2.2.2.2.2.1.1 hc
  have hat := h1.2.2 k i hi
  rw [hE] at hat
  obtain ⟨r, g1, cell, q1, q2, q3, q4⟩ := hat
  have hr : r = (C, T, N) := Option.some.inj (g1.symm.trans hc)
  subst hr
  obtain ⟨hS, hfc, kC, hkC, hkind⟩ := hB.2.2.2.2.2.1.1.1 ci _ hc
  obtain ⟨cf, kf, fi, f, hi', hsl⟩ := hS j hj
  have hlay := hB.2.2.2.2.1 _ (hin _ (u_in_lay hj))
  unfold u_lay at hlay
  rw [if_neg (by rw [hfin]; decide)] at hlay
  have hst := (u_facts hfc hkC (u_lays hB.2.2.2.2.1 hin hj) hi').1
  have h6 := u_store hfc hkC hkind hlay hi' (hty j hj) hn hfit
  refine W.putK hB.1 hB.2.1 (f := f) ⟨hB.2.2.2.1, hB.2.2.2.2.1 _ hlink, ⟨_, _, _, hi'⟩, hst⟩ (by rw [q2]; exact h6) q1 q3 (by rw [hsl]; exact k2_hasslot (q4 j hj)) rfl rfl hdg fun H' e1 e2 e3 => ?_
  rw [hsl] at e1 ⊢
  exact kk H' _ ls (h1.put hi ⟨_, hc, t_OB.to (V := updV (vp_V fs) j v) ⟨_, e1, q2, q3, t_set q4 hap hj v⟩ (fun x _ => vp_updV_set hl v x)⟩ e3) (h2.put e2 e3 (h1.2.1 k i hi)) h3
theorem g_putF (hB : MB p s m args meth c cc own nL D ca SR A) (hin2 : meth.name = "<init>") {C : String} {T : u_T} {N ci idx : Nat} (hin : ∀ w ∈ u_ws C T N, w ∈ Tw) (hc : vwCl[ci]? = some (C, T, N)) (ty0 : Nat → FieldType) (hty : ∀ k, k < N → parseFieldDescriptor (T k).2.2.1 = some (ty0 k)) (hnm : ∀ a, a < N → ∀ b, b < N → a ≠ b → (T a).2.1 ≠ (T b).2.1) (k i j : Nat) {fs : List Value} {v : Value} (hi : i < cn k) (hj : j < N) (hE : E k i = .inr (ci, fs)) (hlink : Cond.fieldLink own idx (T j).1 (T j).2.1 (T j).2.2.1 ∈ Tw) (hfin : (T j).2.2.2 = true) (hdecl : (T j).1 = own) (hn : narrow (ty0 j) v = v) (hfit : fits (ty0 j) v = true) (hl : j < fs.length) (hdg : decode cc pc = .ok (.putfield idx, 3)) (kk : G p l e R s m args below meth c D ad A nL Q cells slots cn (uE E k i (.inr (ci, fs.set j v))) (pc + 3) lvs st) : G p l e R s m args below meth c D ad A nL Q cells slots cn E pc lvs (v :: .ref (ad k i) :: st) := by
  intro H locs ls h1 h2 h3
  have hap := va_apart (own := own) hB.2.2.2.2.1 hin ty0 hty hnm hB.2.2.2.2.2.1.1 hc
  have hat := h1.2.2 k i hi
  rw [hE] at hat
  obtain ⟨r, g1, cell, q1, q2, q3, q4⟩ := hat
  have hr : r = (C, T, N) := Option.some.inj (g1.symm.trans hc)
  subst hr
  obtain ⟨hS, hfc, kC, hkC, hkind⟩ := hB.2.2.2.2.2.1.1.1 ci _ hc
  obtain ⟨cf, kf, fi, f, hi', hsl⟩ := hS j hj
  have hlay := hB.2.2.2.2.1 _ (hin _ (u_in_lay hj))
  unfold u_lay at hlay
  rw [if_pos hfin] at hlay
  have hst := (u_facts hfc hkC (u_lays hB.2.2.2.2.1 hin hj) hi').1
  have hcf : m.cls = cf := by
    obtain ⟨_, _, c', _, _, _, -, -, hf', -, -, -, hown2, -⟩ := Cond.laysFinal_spec hlay
    have e1 : c' = cf := by have := hi'.symm.trans hf'; simp at this; exact this.1.symm
    rw [hdecl] at hown2
    rw [← e1]; exact Option.some.inj (hB.2.2.2.1.symm.trans hown2)
  have h6 := u_fits hfc hkC hkind (Or.inr hlay) hi' (hty j hj) hn hfit
  refine W.putFinK hB.1 hB.2.1 hB.2.2.2.1 (hB.2.2.2.2.1 _ hlink) hi' hst hcf hin2 (by rw [q2]; exact h6) q1 q3 (by rw [hsl]; exact k2_hasslot (q4 j hj)) rfl rfl hdg fun H' e1 e2 e3 => ?_
  rw [hsl] at e1 ⊢
  exact kk H' _ ls (h1.put hi ⟨_, hc, t_OB.to (V := updV (vp_V fs) j v) ⟨_, e1, q2, q3, t_set q4 hap hj v⟩ (fun x _ => vp_updV_set hl v x)⟩ e3) (h2.put e2 e3 (h1.2.1 k i hi)) h3
theorem g_iald (hB : MB p s m args meth c cc own nL D ca SR A) (k i j : Nat) {n : Nat} {f : Nat → Int32} (hi : i < cn k) (hE : E k i = .inl (ca 0, n, .inl f)) (hj : j < n) (hn : n < 2 ^ 31) (hdg : decode cc pc = .ok (.iaload, 1)) (kk : G p l e R s m args below meth c D ad A nL Q cells slots cn E (pc + 1) lvs (.int (f j) :: st)) : G p l e R s m args below meth c D ad A nL Q cells slots cn E pc lvs (.int (nI j) :: .ref (ad k i) :: st) := by
  intro H locs ls h1 h2 h3
  refine va_iald (tys := TYS ca) hB.1 hB.2.1 hB.2.2.2.2.2.1.1 (wp1 h1 hi hE) 0 0 rfl rfl (vp_in_nI hj hn) hdg ?_
  rw [nI_clamp (Nat.lt_trans hj hn)]
  exact kk H locs ls h1 h2 h3
theorem g_aald (hB : MB p s m args meth c cc own nL D ca SR A) (k i j t0 : Nat) {n a : Nat} {C : String} {f : Nat → Option Nat} (hi : i < cn k) (hE : E k i = .inl (ca t0, n, .inr (.inr (.inr (.inr f))))) (ht : (TYS ca)[t0]? = some (ca t0, .object C)) (hj : j < n) (hn : n < 2 ^ 31) (hf : f j = some a) (hdg : decode cc pc = .ok (.aaload, 1)) (kk : G p l e R s m args below meth c D ad A nL Q cells slots cn E (pc + 1) lvs (.ref a :: st)) : G p l e R s m args below meth c D ad A nL Q cells slots cn E pc lvs (.int (nI j) :: .ref (ad k i) :: st) := by
  intro H locs ls h1 h2 h3
  refine va_aldq (C := C) hB.1 hB.2.1 hB.2.2.2.2.2.1.1 (wp1 h1 hi hE) 0 t0 rfl ht (vp_in_nI hj hn) hdg ?_
  rw [nI_clamp (Nat.lt_trans hj hn), hf]
  exact kk H locs ls h1 h2 h3
theorem g_alen (hB : MB p s m args meth c cc own nL D ca SR A) (k i t0 : Nat) {x : vp_A} {ty : FieldType} (hi : i < cn k) (hE : E k i = .inl (ca t0, x)) (ht : (TYS ca)[t0]? = some (ca t0, ty)) (hdg : decode cc pc = .ok (.arraylength, 1)) (kk : G p l e R s m args below meth c D ad A nL Q cells slots cn E (pc + 1) lvs (.int (nI x.1) :: st)) : G p l e R s m args below meth c D ad A nL Q cells slots cn E pc lvs (.ref (ad k i) :: st) := by
  intro H locs ls h1 h2 h3
  exact va_alen (v := nI x.1) hB.1 hB.2.1 hB.2.2.2.2.2.1.1 (wp1 h1 hi hE) 0 t0 rfl ht rfl hdg (kk H locs ls h1 h2 h3)
theorem g_iast (hB : MB p s m args meth c cc own nL D ca SR A) (k i j : Nat) {n : Nat} {f : Nat → Int32} {x : Int32} (hi : i < cn k) (hE : E k i = .inl (ca 0, n, .inl f)) (hj : j < n) (hn : n < 2 ^ 31) (hdg : decode cc pc = .ok (.iastore, 1)) (kk : G p l e R s m args below meth c D ad A nL Q cells slots cn (uE E k i (.inl (ca 0, n, .inl (upd f j x)))) (pc + 1) lvs st) : G p l e R s m args below meth c D ad A nL Q cells slots cn E pc lvs (.int x :: .int (nI j) :: .ref (ad k i) :: st) := by
  intro H locs ls h1 h2 h3
  have hat : H[ad k i]? = some (vp_cell (ca 0) (n, .inl f)) := by
    have := h1.2.2 k i hi
    rw [hE] at this; exact this
  refine W.iast hB.1 hB.2.1 hat ((hB.2.2.2.2.2.1.1.2 0 (ca 0, .int) rfl).1 n (fun j => .int (f j))) (fun q => by cases q) (by show ¬ (_ ∨ (arrV _ _ _).slots.size ≤ _); rw [arrV_size]; exact vp_in_nI hj hn) rfl rfl hdg fun H1 e z oq => ?_
  refine kk H1 _ ls (h1.put hi ?_ oq) (h2.put z oq (h1.2.1 k i hi)) h3
  show H1[ad k i]? = some (vp_cell _ _)
  rw [e, vp_cell_i, vp_cell_i, arrV_store, nI_clamp (Nat.lt_trans hj hn)]
  congr 2
  funext q
  by_cases hq : q = j
  · subst hq
    simp [updV, upd]
  · simp [updV, upd, hq]
end GR
