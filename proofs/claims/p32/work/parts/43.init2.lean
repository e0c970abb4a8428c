/-! FleetSettings' constructor -/
section X11
variable {l : Launch} {D : va_G} {ad : Nat → Nat → Nat} {ca : Nat → ClassId} {SR : List (String × Nat × String)}
theorem df_X1 : ∀ j, j < 2 → defaultValue (tyX1 j) = vp_V [.null, .null] j := by decide +kernel
theorem df_X3 : ∀ j, j < 4 → defaultValue (tyX3 j) = vp_V [.null, .null, .null, .int 0] j := by decide +kernel
theorem df_X4 : ∀ j, j < 4 → defaultValue (tyX4 j) = vp_V [.int 0, .int 0, .int 0, .int 0] j := by decide +kernel
theorem df_X2 : ∀ j, j < 6 → defaultValue (tyX2 j) = vp_V [.int 0, .int 0, .int 0, .int 0, .null, .null] j := by decide +kernel
theorem df_X0 : ∀ j, j < 8 → defaultValue (tyX0 j) = vp_V [.int 0, .int 0, .int 0, .int 0, .int 0, .int 0, .null, .null] j := by decide +kernel
/-- the memory as both sides begin -/
def z0 : Nat → Int32 := fun _ => 0
def S00 : Mem := fun k i => match k with
  | 0 => fun j => if j = 1 then nI 12 else if j = 5 then nI 1 else 0
  | 1 => if i = 0 then ovl z0 0 4 (fun _ => nI 255) else if i = 1 then ovl z0 0 10 (fun _ => -1) else z0
  | 5 => fun j => if j = 0 then nI 1 else 0
  | 6 => fun j => if j = 0 then nI (10 + i) else 0
  | 8 => ovl z0 0 132 (fun _ => -1)
  | 11 => ovl z0 0 8 (fun _ => -1)
  | 13 => ovl z0 0 132 (fun _ => -1)
  | 14 => ovl z0 0 40 (fun _ => -1)
  | 17 => fun j => if j = 4 then nI 1 else if j = 7 then nI 12 else 0
  | 18 => if i = 0 then ovl z0 0 4 (fun _ => nI 255) else if i = 2 then upd z0 0 (-1) else if i = 5 then ovl z0 0 792 (fun _ => -1) else z0
  | _ => z0
def cnI (a b c : Nat) : Nat → Nat := fun k => match k with
  | 0 => 1 | 1 => 3 | 2 => 1 | 3 => 1 | 4 => 1 | 5 => a | 6 => b | 7 => b | 8 => b | 9 => c | 10 => c | 11 => c | 12 => 2 | 13 => 2 | 14 => 2 | 15 => 1 | 16 => 3 | 20 => b | 21 => 2 | _ => 0
def rfs (ad : Nat → Nat → Nat) (k n : Nat) : Nat → Option Nat := fun j => if j < n then some (ad k j) else none
def IE (ad : Nat → Nat → Nat) (ca : Nat → ClassId) (a b c : Nat) : Rl := fun k i => match k with
  | 2 => .inl (ca 1, 8, .inr (.inr (.inr (.inr (rfs ad 5 a)))))
  | 3 => .inl (ca 2, 12, .inr (.inr (.inr (.inr (rfs ad 6 b)))))
  | 4 => .inl (ca 3, 40, .inr (.inr (.inr (.inr (rfs ad 9 c)))))
  | k => cellOf ad ca k i (S00 k i)
section
variable {p : Program} {e : Env} {R : Room} {s : State} {m : MethodId} {args : Array Value} {below : List Frame} {meth : Method} {c : Code} {A : Nat → Prop} {nL : Nat} {Q : State → Prop} {cells slots : Nat} {cn : Nat → Nat} {E : Rl} {lvs : List (Nat × Value)} {st : List Value} {pc : Nat}
theorem g_cn {cn2 : Nat → Nat} (h : ∀ k, cn k = cn2 k) (kk : G p l e R s m args below meth c D ad A nL Q cells slots cn2 E pc lvs st) : G p l e R s m args below meth c D ad A nL Q cells slots cn E pc lvs st := by
  have e : cn = cn2 := funext h
  rw [e]; exact kk
theorem g_widen {k n : Nat} (hc : cells ≤ k) (hs : slots ≤ n) (kk : G p l e R s m args below meth c D ad A nL Q k n cn E pc lvs st) : G p l e R s m args below meth c D ad A nL Q cells slots cn E pc lvs st := fun H locs ls h1 h2 h3 => W.widen hc hs (kk H locs ls h1 h2 h3)
theorem g_EA {E' : Rl} (h : ∀ k i (H : Heap), i < cn k → va_at D vwCl (ad k i, E k i) H → va_at D vwCl (ad k i, E' k i) H) (k : G p l e R s m args below meth c D ad A nL Q cells slots cn E' pc lvs st) : G p l e R s m args below meth c D ad A nL Q cells slots cn E pc lvs st := fun H locs ls h1 h2 h3 => k H locs ls ⟨h1.1, h1.2.1, fun k i hi => h k i H hi (h1.2.2 k i hi)⟩ h2 h3
end
theorem va_rfs {k i t n kk : Nat} {H : Heap} (hv : va_at D vwCl (ad k i, .inl (ca t, n, .inr (.inr (.inr (.inr (rfs ad kk n)))))) H) : va_at D vwCl (ad k i, .inl (ca t, n, .inr (.inr (.inr (.inr (fun j => some (ad kk j))))))) H := by
  have h : H[ad k i]? = some (vp_cell _ _) := hv
  show H[ad k i]? = some (vp_cell _ _)
  rw [h, vp_cell_q, vp_cell_q]
  congr 1
  unfold arrV
  congr 2
  funext j
  show va_rf (rfs ad kk n j) = va_rf (some (ad kk j))
  unfold rfs
  rw [if_pos j.2]
theorem rfs_up {k i q : Nat} {ad2 : Nat → Nat → Nat} (h : ∀ j, j < i → ad2 k j = ad k j) (hq : ad2 k i = q) : va_up (rfs ad k i) i (some q) = rfs ad2 k (i + 1) := by
  funext j
  unfold va_up rfs
  rcases Nat.lt_trichotomy j i with z | z | z
  · rw [if_neg (by omega), if_pos z, if_pos (by omega), h j z]
  · rw [if_pos z, if_pos (by omega), z, hq]
  · rw [if_neg (by omega), if_neg (by omega), if_neg (by omega)]
section
variable {p : Program} {e : Env} {R : Room} {s : State} {m : MethodId} {args : Array Value} {below : List Frame} {meth : Method} {c : Code} {A : Nat → Prop} {nL : Nat} {Q : State → Prop} {cells slots : Nat} {cn : Nat → Nat} {E : Rl} {lvs : List (Nat × Value)} {st : List Value} {pc : Nat}
theorem g_st {st' : List Value} (h : st = st') (kk : G p l e R s m args below meth c D ad A nL Q cells slots cn E pc lvs st') : G p l e R s m args below meth c D ad A nL Q cells slots cn E pc lvs st := by subst h; exact kk
end

theorem c_X5_init (E : Rl) (hE : E 0 0 = .inr (5, [.int 0, .int 0, .null, .null, .null, .int 0, .null, .int 0, .null, .int 0, .int 0, .int 0, .null, .null, .null, .null])) : CN l yX5_init cX5_init 2 { frames := 4, cells := 194, slots := 3244, locals := 120 } D ad (fun k => if k = 0 then 1 else 0) ca SR E [.ref (ad 0 0)] (cnI 8 12 40) (fun ad' E' => ad' 0 0 = ad 0 0 ∧ ∀ k i, i < cnI 8 12 40 k → ∀ H, va_at D vwCl (ad' k i, E' k i) H → va_at D vwCl (ad' k i, SH ad' ca S00 k i) H) := by
  refine CN.of _ RX5 (by decide +kernel) rfl (Nat.le_of_ble_eq_true rfl) ?_
  intro p9 e9 s9 m9 a9 b9 me9 c9 A9 hB hr hnm
  have ph5 : ∀ ad', ad' 0 0 = ad 0 0 → G p9 l e9 { frames := 4, cells := 194, slots := 3244, locals := 120 } s9 m9 a9 b9 me9 c9 D ad' A9 2 (QN b9 (fun ad' E' => ad' 0 0 = ad 0 0 ∧ ∀ k i, i < cnI 8 12 40 k → ∀ H, va_at D vwCl (ad' k i, E' k i) H → va_at D vwCl (ad' k i, SH ad' ca S00 k i) H) D (cnI 8 12 40) A9 a9 s9 194 3244) 194 3244 (cnI 8 12 40) (IE ad' ca 8 12 40) 201 [(0, .ref (ad' 0 0))] [] := by
    intro ad' had
    refine g_nret hB hr (Nat.le_of_ble_eq_true rfl) (Nat.le_of_ble_eq_true rfl) ⟨had, fun k i h H hv => ?_⟩ dX5_init_201
    match k, h with
    | 2, h => match i, h with
      | 0, _ => exact va_rfs hv
      | (n + 1), h => exact absurd h (by show ¬ (n + 1 < 1); omega)
    | 3, h => match i, h with
      | 0, _ => exact va_rfs hv
      | (n + 1), h => exact absurd h (by show ¬ (n + 1 < 1); omega)
    | 4, h => match i, h with
      | 0, _ => exact va_rfs hv
      | (n + 1), h => exact absurd h (by show ¬ (n + 1 < 1); omega)
    | 0, _ => exact hv
    | 1, _ => exact hv
    | (n + 5), _ => exact hv
  have ph4 : ∀ ad', ad' 0 0 = ad 0 0 → G p9 l e9 { frames := 4, cells := 194, slots := 3244, locals := 120 } s9 m9 a9 b9 me9 c9 D ad' A9 2 (QN b9 (fun ad' E' => ad' 0 0 = ad 0 0 ∧ ∀ k i, i < cnI 8 12 40 k → ∀ H, va_at D vwCl (ad' k i, E' k i) H → va_at D vwCl (ad' k i, SH ad' ca S00 k i) H) D (cnI 8 12 40) A9 a9 s9 194 3244) 74 2284 (cnI 8 12 0) (IE ad' ca 8 12 0) 174 [(0, .ref (ad' 0 0))] [] := by
    have loop : ∀ (n i : Nat), 40 - i < n → i ≤ 40 → ∀ ad', ad' 0 0 = ad 0 0 → G p9 l e9 { frames := 4, cells := 194, slots := 3244, locals := 120 } s9 m9 a9 b9 me9 c9 D ad' A9 2 (QN b9 (fun ad' E' => ad' 0 0 = ad 0 0 ∧ ∀ k i, i < cnI 8 12 40 k → ∀ H, va_at D vwCl (ad' k i, E' k i) H → va_at D vwCl (ad' k i, SH ad' ca S00 k i) H) D (cnI 8 12 40) A9 a9 s9 194 3244) (74 + 3 * i) (2284 + 24 * i) (cnI 8 12 i) (IE ad' ca 8 12 i) 176 [(0, .ref (ad' 0 0)), (1, .int (nI i))] [] := by
      intro n
      induction n with
      | zero => intro i h1; omega
      | succ n ih =>
        intro i h1 h2 ad' had
        refine g_iload_n hB 1 dX5_init_176 rfl rfl ?_
        refine g_bipush hB (nI 40) dX5_init_177 rfl ?_
        refine n_icmp_ge hB i 40 201 dX5_init_179 (by decide) (by omega) (by omega) (fun c_1 => ?_) (fun c_1 => ?_)
        · have hk : i = 40 := by omega
          subst hk
          exact g_sub _ rfl (ph5 ad' had)
        · refine g_aload_n hB 0 dX5_init_182 rfl rfl ?_
          refine g_get hB (ci := 5) (T := TX5) (N := 16) in_X5 rfl 0 0 8 (fs := [.int (S00 0 0 0), .int (S00 0 0 1), .ref (ad' 1 0), .ref (ad' 2 0), .ref (ad' 1 1), .int (S00 0 0 5), .ref (ad' 3 0), .int (S00 0 0 7), .ref (ad' 4 0), .int (S00 0 0 9), .int (S00 0 0 10), .int (S00 0 0 11), .ref (ad' 1 2), .ref (ad' 12 0), .ref (ad' 12 1), .ref (ad' 15 0)]) (v := .ref (ad' 4 0)) (show 0 < _ from Nat.zero_lt_one) (by decide) (rfl) tw_fl_X5_37 rfl dX5_init_183 ?_
          refine g_iload_n hB 1 dX5_init_186 rfl rfl ?_
          refine g_newo hB (C := RX0) (T := TX0) (N := 8) (ci := 0) in_X0 rfl tyX0 tyX0_ok 9 i rfl [.int 0, .int 0, .int 0, .int 0, .int 0, .int 0, .null, .null] df_X0 tw_cl_X5_35 tw_ins_X0 tw_ini_X0 dX5_init_187 ⟨by show _ ≤ _; dsimp only; omega, by show _ ≤ _; dsimp only; omega⟩ (fun q0 => ?_)
          refine g_dup hB rfl dX5_init_190 ?_
          refine g_callN hB (c_X0_init _ _ i (show i < i + 1 by omega) rfl rfl (uE_s)) (Tw_good (WS_all tw_code_X0_init)) tw_ini_X0 tw_ml_X5_71 tw_im_X0_init rfl yk_X0_init ⟨Nat.le_of_ble_eq_true rfl, Nat.le_of_ble_eq_true rfl⟩ (rest := [.ref q0, .int (nI (i)), .ref (ad' 4 0)]) (congrArg (fun q => Value.ref q :: ([.ref q0, .int (nI (i)), .ref (ad' 4 0)] : List Value)) ((adU_s)).symm) (Nat.le_of_ble_eq_true rfl) ⟨by show _ ≤ _; dsimp only; omega, by show _ ≤ _; dsimp only; omega⟩ dX5_init_191 ?_
          rintro _ _ ⟨q1, q2, rfl, rfl⟩
          refine g_st (congrArg (fun q => [Value.ref q, .int (nI i), .ref (ad' 4 0)]) (show (adU (adU (adU ad' 9 i q0) 10 i q1) 11 i q2) 9 i = q0 from ((adU_n (fun z => absurd z.1 (by decide))).trans ((adU_n (fun z => absurd z.1 (by decide))).trans (adU_s)))).symm) ?_
          refine g_aast hB 4 0 9 i 3 0 i (r := (RX0, TX0, 8)) (n := 40) (f := rfs ad' 9 i) (vs := [.int 0, .int 0, .int 0, .int 0, .int (nI 0), .int 0, .ref q1, .ref q2]) Nat.zero_lt_one (show i < i + 1 by omega) rfl (uE_s) rfl rfl c_1 (by decide) dX5_init_194 ?_
          refine g_iinc hB (nI (i + 1)) dX5_init_195 rfl (nI_1 _) (by decide) ?_
          refine g_goto hB 176 dX5_init_198 (by decide) ?_
          refine g_cn (cn2 := cnI 8 12 (i + 1)) (fun k => ?_) (g_widen (k := 74 + 3 * (i + 1)) (n := 2284 + 24 * (i + 1)) ?_ ?_ (g_E (E' := IE (adU (adU (adU ad' 9 i q0) 10 i q1) 11 i q2) ca 8 12 (i + 1)) ?_ (g_sub _ rfl (ih (i + 1) (by omega) (by omega) _ had))))
          · match k with
            | 0 => rfl
            | 1 => rfl
            | 2 => rfl
            | 3 => rfl
            | 4 => rfl
            | 5 => rfl
            | 6 => rfl
            | 7 => rfl
            | 8 => rfl
            | 9 => rfl
            | 10 => rfl
            | 11 => rfl
            | 12 => rfl
            | 13 => rfl
            | 14 => rfl
            | 15 => rfl
            | 16 => rfl
            | 17 => rfl
            | 18 => rfl
            | 19 => rfl
            | 20 => rfl
            | 21 => rfl
            | (n + 22) => rfl
          · show _ ≤ _; dsimp only; omega
          · show _ ≤ _; dsimp only; omega
          · intro k j h
            match k, h with
            | 0, _ => rfl
            | 1, _ => rfl
            | 2, _ => rfl
            | 3, _ => rfl
            | 4, h => match j, h with
              | 0, _ => exact congrArg (fun f => Sum.inl (ca 3, 40, Sum.inr (Sum.inr (Sum.inr (Sum.inr f))))) (rfs_up (fun j hj => (show (adU (adU (adU ad' 9 i q0) 10 i q1) 11 i q2) 9 j = _ from (adU_n (fun z => absurd z.1 (by decide))).trans ((adU_n (fun z => absurd z.1 (by decide))).trans ((adU_n (fun z => by omega)).trans (rfl))))) rfl)
              | (n + 1), h => exact absurd h (by show ¬ (n + 1 < 1); omega)
            | 5, _ => rfl
            | 6, _ => rfl
            | 7, _ => rfl
            | 8, _ => rfl
            | 9, h =>
              by_cases hj : j = i
              · subst hj
                refine (uE_n (fun z => absurd z.1 (by decide))).trans ((uE_s).trans ?_)
                exact congrArg (fun v => Sum.inr (0, v)) ((congrArg (fun w => [.int 0, .int 0, .int 0, .int 0, .int (nI 0), .int 0, Value.ref w, Value.ref _]) (show (adU (adU (adU ad' 9 j q0) 10 j q1) 11 j q2) 10 j = q1 from ((adU_n (fun z => absurd z.1 (by decide))).trans (adU_s))).symm).trans (congrArg (fun w => [.int 0, .int 0, .int 0, .int 0, .int (nI 0), .int 0, Value.ref _, Value.ref w]) (show (adU (adU (adU ad' 9 j q0) 10 j q1) 11 j q2) 11 j = q2 from (adU_s)).symm))
              · refine (uE_n (fun z => absurd z.1 (by decide))).trans ((uE_n (fun z => hj z.2)).trans ((uE_n (fun z => absurd z.1 (by decide))).trans ((uE_n (fun z => absurd z.1 (by decide))).trans ((uE_n (fun z => hj z.2)).trans (?_)))))
                exact congrArg (fun v => Sum.inr (0, v)) ((congrArg (fun w => [.int (S00 9 j 0), .int (S00 9 j 1), .int (S00 9 j 2), .int (S00 9 j 3), .int (S00 9 j 4), .int (S00 9 j 5), Value.ref w, Value.ref _]) (show (adU (adU (adU ad' 9 i q0) 10 i q1) 11 i q2) 10 j = ad' 10 j from (adU_n (fun z => absurd z.1 (by decide))).trans ((adU_n (fun z => hj z.2)).trans ((adU_n (fun z => absurd z.1 (by decide))).trans (rfl)))).symm).trans (congrArg (fun w => [.int (S00 9 j 0), .int (S00 9 j 1), .int (S00 9 j 2), .int (S00 9 j 3), .int (S00 9 j 4), .int (S00 9 j 5), Value.ref _, Value.ref w]) (show (adU (adU (adU ad' 9 i q0) 10 i q1) 11 i q2) 11 j = ad' 11 j from (adU_n (fun z => hj z.2)).trans ((adU_n (fun z => absurd z.1 (by decide))).trans ((adU_n (fun z => absurd z.1 (by decide))).trans (rfl)))).symm))
            | 10, h =>
              by_cases hj : j = i
              · subst hj
                refine (uE_n (fun z => absurd z.1 (by decide))).trans ((((uE_n (fun z => absurd z.1 (by decide))).trans ((uE_n (fun z => absurd z.1 (by decide))).trans (uE_s)))).trans ?_)
                rfl
              · refine (uE_n (fun z => absurd z.1 (by decide))).trans ((uE_n (fun z => absurd z.1 (by decide))).trans ((uE_n (fun z => absurd z.1 (by decide))).trans ((uE_n (fun z => hj z.2)).trans ((uE_n (fun z => absurd z.1 (by decide))).trans (rfl)))))
            | 11, h =>
              by_cases hj : j = i
              · subst hj
                refine (uE_n (fun z => absurd z.1 (by decide))).trans ((((uE_n (fun z => absurd z.1 (by decide))).trans (uE_s))).trans ?_)
                rfl
              · refine (uE_n (fun z => absurd z.1 (by decide))).trans ((uE_n (fun z => absurd z.1 (by decide))).trans ((uE_n (fun z => hj z.2)).trans ((uE_n (fun z => absurd z.1 (by decide))).trans ((uE_n (fun z => absurd z.1 (by decide))).trans (rfl)))))
            | 12, _ => rfl
            | 13, _ => rfl
            | 14, _ => rfl
            | 15, _ => rfl
            | 16, _ => rfl
            | 17, h => exact absurd h (Nat.not_lt_zero _)
            | 18, h => exact absurd h (Nat.not_lt_zero _)
            | 19, h => exact absurd h (Nat.not_lt_zero _)
            | 20, _ => rfl
            | 21, _ => rfl
            | (n + 22), h => exact absurd h (Nat.not_lt_zero _)
    intro ad' had
    refine g_iconst hB (nI 0) dX5_init_174 rfl ?_
    refine g_istore_n hB 1 dX5_init_175 rfl (by decide) ?_
    exact g_sub _ rfl (loop 41 0 (by omega) (by omega) ad' had)
  have ph3 : ∀ ad', ad' 0 0 = ad 0 0 → G p9 l e9 { frames := 4, cells := 194, slots := 3244, locals := 120 } s9 m9 a9 b9 me9 c9 D ad' A9 2 (QN b9 (fun ad' E' => ad' 0 0 = ad 0 0 ∧ ∀ k i, i < cnI 8 12 40 k → ∀ H, va_at D vwCl (ad' k i, E' k i) H → va_at D vwCl (ad' k i, SH ad' ca S00 k i) H) D (cnI 8 12 40) A9 a9 s9 194 3244) 26 484 (cnI 8 0 0) (IE ad' ca 8 0 0) 143 [(0, .ref (ad' 0 0))] [] := by
    have loop : ∀ (n i : Nat), 12 - i < n → i ≤ 12 → ∀ ad', ad' 0 0 = ad 0 0 → G p9 l e9 { frames := 4, cells := 194, slots := 3244, locals := 120 } s9 m9 a9 b9 me9 c9 D ad' A9 2 (QN b9 (fun ad' E' => ad' 0 0 = ad 0 0 ∧ ∀ k i, i < cnI 8 12 40 k → ∀ H, va_at D vwCl (ad' k i, E' k i) H → va_at D vwCl (ad' k i, SH ad' ca S00 k i) H) D (cnI 8 12 40) A9 a9 s9 194 3244) (26 + 4 * i) (484 + 150 * i) (cnI 8 i 0) (IE ad' ca 8 i 0) 145 [(0, .ref (ad' 0 0)), (1, .int (nI i))] [] := by
      intro n
      induction n with
      | zero => intro i h1; omega
      | succ n ih =>
        intro i h1 h2 ad' had
        refine g_iload_n hB 1 dX5_init_145 rfl rfl ?_
        refine g_bipush hB (nI 12) dX5_init_146 rfl ?_
        refine n_icmp_ge hB i 12 174 dX5_init_148 (by decide) (by omega) (by omega) (fun c_1 => ?_) (fun c_1 => ?_)
        · have hk : i = 12 := by omega
          subst hk
          exact g_sub _ rfl (ph4 ad' had)
        · refine g_aload_n hB 0 dX5_init_151 rfl rfl ?_
          refine g_get hB (ci := 5) (T := TX5) (N := 16) in_X5 rfl 0 0 6 (fs := [.int (S00 0 0 0), .int (S00 0 0 1), .ref (ad' 1 0), .ref (ad' 2 0), .ref (ad' 1 1), .int (S00 0 0 5), .ref (ad' 3 0), .int (S00 0 0 7), .ref (ad' 4 0), .int (S00 0 0 9), .int (S00 0 0 10), .int (S00 0 0 11), .ref (ad' 1 2), .ref (ad' 12 0), .ref (ad' 12 1), .ref (ad' 15 0)]) (v := .ref (ad' 3 0)) (show 0 < _ from Nat.zero_lt_one) (by decide) (rfl) tw_fl_X5_31 rfl dX5_init_152 ?_
          refine g_iload_n hB 1 dX5_init_155 rfl rfl ?_
          refine g_newo hB (C := RX2) (T := TX2) (N := 6) (ci := 2) in_X2 rfl tyX2 tyX2_ok 6 i rfl [.int 0, .int 0, .int 0, .int 0, .null, .null] df_X2 tw_cl_X5_29 tw_ins_X2 tw_ini_X2 dX5_init_156 ⟨by show _ ≤ _; dsimp only; omega, by show _ ≤ _; dsimp only; omega⟩ (fun q0 => ?_)
          refine g_dup hB rfl dX5_init_159 ?_
          refine g_bipush hB (nI 10) dX5_init_160 rfl ?_
          refine g_iload_n hB 1 dX5_init_162 rfl rfl ?_
          refine g_iadd hB dX5_init_163 ?_
          refine g_top (nI (10 + i)) (nI_add _ _) ?_
          refine g_callN hB (c_X2_init _ _ i (10 + i) (show i < i + 1 by omega) rfl rfl rfl (uE_s)) (Tw_good (WS_all tw_code_X2_init)) tw_ini_X2 tw_ml_X5_68 tw_im_X2_init rfl yk_X2_init ⟨Nat.le_of_ble_eq_true rfl, Nat.le_of_ble_eq_true rfl⟩ (rest := [.ref q0, .int (nI (i)), .ref (ad' 3 0)]) (congrArg (fun q => .int (nI (10 + i)) :: Value.ref q :: [.ref q0, .int (nI (i)), .ref (ad' 3 0)]) ((adU_s)).symm) (Nat.le_of_ble_eq_true rfl) ⟨by show _ ≤ _; dsimp only; omega, by show _ ≤ _; dsimp only; omega⟩ dX5_init_164 ?_
          rintro _ _ ⟨q1, q2, q3, rfl, rfl⟩
          refine g_st (congrArg (fun q => [Value.ref q, .int (nI i), .ref (ad' 3 0)]) (show (adU (adU (adU (adU ad' 6 i q0) 20 i q1) 8 i q2) 7 i q3) 6 i = q0 from ((adU_n (fun z => absurd z.1 (by decide))).trans ((adU_n (fun z => absurd z.1 (by decide))).trans ((adU_n (fun z => absurd z.1 (by decide))).trans (adU_s))))).symm) ?_
          refine g_aast hB 3 0 6 i 2 2 i (r := (RX2, TX2, 6)) (n := 12) (f := rfs ad' 6 i) (vs := [.int (nI (10 + i)), .int 0, .int 0, .int 0, .ref q1, .ref q3]) Nat.zero_lt_one (show i < i + 1 by omega) rfl (uE_s) rfl rfl c_1 (by decide) dX5_init_167 ?_
          refine g_iinc hB (nI (i + 1)) dX5_init_168 rfl (nI_1 _) (by decide) ?_
          refine g_goto hB 145 dX5_init_171 (by decide) ?_
          refine g_cn (cn2 := cnI 8 (i + 1) 0) (fun k => ?_) (g_widen (k := 26 + 4 * (i + 1)) (n := 484 + 150 * (i + 1)) ?_ ?_ (g_E (E' := IE (adU (adU (adU (adU ad' 6 i q0) 20 i q1) 8 i q2) 7 i q3) ca 8 (i + 1) 0) ?_ (g_sub _ rfl (ih (i + 1) (by omega) (by omega) _ had))))
          · match k with
            | 0 => rfl
            | 1 => rfl
            | 2 => rfl
            | 3 => rfl
            | 4 => rfl
            | 5 => rfl
            | 6 => rfl
            | 7 => rfl
            | 8 => rfl
            | 9 => rfl
            | 10 => rfl
            | 11 => rfl
            | 12 => rfl
            | 13 => rfl
            | 14 => rfl
            | 15 => rfl
            | 16 => rfl
            | 17 => rfl
            | 18 => rfl
            | 19 => rfl
            | 20 => rfl
            | 21 => rfl
            | (n + 22) => rfl
          · show _ ≤ _; dsimp only; omega
          · show _ ≤ _; dsimp only; omega
          · intro k j h
            match k, h with
            | 0, _ => rfl
            | 1, _ => rfl
            | 2, _ => rfl
            | 3, h => match j, h with
              | 0, _ => exact congrArg (fun f => Sum.inl (ca 2, 12, Sum.inr (Sum.inr (Sum.inr (Sum.inr f))))) (rfs_up (fun j hj => (show (adU (adU (adU (adU ad' 6 i q0) 20 i q1) 8 i q2) 7 i q3) 6 j = _ from (adU_n (fun z => absurd z.1 (by decide))).trans ((adU_n (fun z => absurd z.1 (by decide))).trans ((adU_n (fun z => absurd z.1 (by decide))).trans ((adU_n (fun z => by omega)).trans (rfl)))))) rfl)
              | (n + 1), h => exact absurd h (by show ¬ (n + 1 < 1); omega)
            | 4, _ => rfl
            | 5, _ => rfl
            | 6, h =>
              by_cases hj : j = i
              · subst hj
                refine (uE_n (fun z => absurd z.1 (by decide))).trans ((uE_s).trans ?_)
                exact congrArg (fun v => Sum.inr (2, v)) ((congrArg (fun w => [.int (nI (10 + j)), .int 0, .int 0, .int 0, Value.ref w, Value.ref _]) (show (adU (adU (adU (adU ad' 6 j q0) 20 j q1) 8 j q2) 7 j q3) 20 j = q1 from ((adU_n (fun z => absurd z.1 (by decide))).trans ((adU_n (fun z => absurd z.1 (by decide))).trans (adU_s)))).symm).trans (congrArg (fun w => [.int (nI (10 + j)), .int 0, .int 0, .int 0, Value.ref _, Value.ref w]) (show (adU (adU (adU (adU ad' 6 j q0) 20 j q1) 8 j q2) 7 j q3) 7 j = q3 from (adU_s)).symm))
              · refine (uE_n (fun z => absurd z.1 (by decide))).trans ((uE_n (fun z => hj z.2)).trans ((uE_n (fun z => absurd z.1 (by decide))).trans ((uE_n (fun z => absurd z.1 (by decide))).trans ((uE_n (fun z => absurd z.1 (by decide))).trans ((uE_n (fun z => hj z.2)).trans (?_))))))
                exact congrArg (fun v => Sum.inr (2, v)) ((congrArg (fun w => [.int (S00 6 j 0), .int (S00 6 j 1), .int (S00 6 j 2), .int (S00 6 j 3), Value.ref w, Value.ref _]) (show (adU (adU (adU (adU ad' 6 i q0) 20 i q1) 8 i q2) 7 i q3) 20 j = ad' 20 j from (adU_n (fun z => absurd z.1 (by decide))).trans ((adU_n (fun z => absurd z.1 (by decide))).trans ((adU_n (fun z => hj z.2)).trans ((adU_n (fun z => absurd z.1 (by decide))).trans (rfl))))).symm).trans (congrArg (fun w => [.int (S00 6 j 0), .int (S00 6 j 1), .int (S00 6 j 2), .int (S00 6 j 3), Value.ref _, Value.ref w]) (show (adU (adU (adU (adU ad' 6 i q0) 20 i q1) 8 i q2) 7 i q3) 7 j = ad' 7 j from (adU_n (fun z => hj z.2)).trans ((adU_n (fun z => absurd z.1 (by decide))).trans ((adU_n (fun z => absurd z.1 (by decide))).trans ((adU_n (fun z => absurd z.1 (by decide))).trans (rfl))))).symm))
            | 7, h =>
              by_cases hj : j = i
              · subst hj
                refine (uE_n (fun z => absurd z.1 (by decide))).trans ((((uE_n (fun z => absurd z.1 (by decide))).trans (uE_s))).trans ?_)
                rfl
              · refine (uE_n (fun z => absurd z.1 (by decide))).trans ((uE_n (fun z => absurd z.1 (by decide))).trans ((uE_n (fun z => hj z.2)).trans ((uE_n (fun z => absurd z.1 (by decide))).trans ((uE_n (fun z => absurd z.1 (by decide))).trans ((uE_n (fun z => absurd z.1 (by decide))).trans (rfl))))))
            | 8, h =>
              by_cases hj : j = i
              · subst hj
                refine (uE_n (fun z => absurd z.1 (by decide))).trans ((((uE_n (fun z => absurd z.1 (by decide))).trans ((uE_n (fun z => absurd z.1 (by decide))).trans (uE_s)))).trans ?_)
                rfl
              · refine (uE_n (fun z => absurd z.1 (by decide))).trans ((uE_n (fun z => absurd z.1 (by decide))).trans ((uE_n (fun z => absurd z.1 (by decide))).trans ((uE_n (fun z => hj z.2)).trans ((uE_n (fun z => absurd z.1 (by decide))).trans ((uE_n (fun z => absurd z.1 (by decide))).trans (rfl))))))
            | 9, _ => rfl
            | 10, _ => rfl
            | 11, _ => rfl
            | 12, _ => rfl
            | 13, _ => rfl
            | 14, _ => rfl
            | 15, _ => rfl
            | 16, _ => rfl
            | 17, h => exact absurd h (Nat.not_lt_zero _)
            | 18, h => exact absurd h (Nat.not_lt_zero _)
            | 19, h => exact absurd h (Nat.not_lt_zero _)
            | 20, h =>
              by_cases hj : j = i
              · subst hj
                refine (uE_n (fun z => absurd z.1 (by decide))).trans ((((uE_n (fun z => absurd z.1 (by decide))).trans ((uE_n (fun z => absurd z.1 (by decide))).trans ((uE_n (fun z => absurd z.1 (by decide))).trans (uE_s))))).trans ?_)
                exact congrArg (fun v => Sum.inr (6, v)) (congrArg (fun w => [Value.ref w]) (show (adU (adU (adU (adU ad' 6 j q0) 20 j q1) 8 j q2) 7 j q3) 8 j = q2 from ((adU_n (fun z => absurd z.1 (by decide))).trans (adU_s))).symm)
              · refine (uE_n (fun z => absurd z.1 (by decide))).trans ((uE_n (fun z => absurd z.1 (by decide))).trans ((uE_n (fun z => absurd z.1 (by decide))).trans ((uE_n (fun z => absurd z.1 (by decide))).trans ((uE_n (fun z => hj z.2)).trans ((uE_n (fun z => absurd z.1 (by decide))).trans (?_))))))
                exact congrArg (fun v => Sum.inr (6, v)) (congrArg (fun w => [Value.ref w]) (show (adU (adU (adU (adU ad' 6 i q0) 20 i q1) 8 i q2) 7 i q3) 8 j = ad' 8 j from (adU_n (fun z => absurd z.1 (by decide))).trans ((adU_n (fun z => hj z.2)).trans ((adU_n (fun z => absurd z.1 (by decide))).trans ((adU_n (fun z => absurd z.1 (by decide))).trans (rfl))))).symm)
            | 21, _ => rfl
            | (n + 22), h => exact absurd h (Nat.not_lt_zero _)
    intro ad' had
    refine g_iconst hB (nI 0) dX5_init_143 rfl ?_
    refine g_istore_n hB 1 dX5_init_144 rfl (by decide) ?_
    exact g_sub _ rfl (loop 13 0 (by omega) (by omega) ad' had)
  have ph2 : ∀ ad', ad' 0 0 = ad 0 0 → G p9 l e9 { frames := 4, cells := 194, slots := 3244, locals := 120 } s9 m9 a9 b9 me9 c9 D ad' A9 2 (QN b9 (fun ad' E' => ad' 0 0 = ad 0 0 ∧ ∀ k i, i < cnI 8 12 40 k → ∀ H, va_at D vwCl (ad' k i, E' k i) H → va_at D vwCl (ad' k i, SH ad' ca S00 k i) H) D (cnI 8 12 40) A9 a9 s9 194 3244) 18 452 (cnI 0 0 0) (IE ad' ca 0 0 0) 116 [(0, .ref (ad' 0 0))] [] := by
    have loop : ∀ (n i : Nat), 8 - i < n → i ≤ 8 → ∀ ad', ad' 0 0 = ad 0 0 → G p9 l e9 { frames := 4, cells := 194, slots := 3244, locals := 120 } s9 m9 a9 b9 me9 c9 D ad' A9 2 (QN b9 (fun ad' E' => ad' 0 0 = ad 0 0 ∧ ∀ k i, i < cnI 8 12 40 k → ∀ H, va_at D vwCl (ad' k i, E' k i) H → va_at D vwCl (ad' k i, SH ad' ca S00 k i) H) D (cnI 8 12 40) A9 a9 s9 194 3244) (18 + i) (452 + 4 * i) (cnI i 0 0) (IE ad' ca i 0 0) 118 [(0, .ref (ad' 0 0)), (1, .int (nI i))] [] := by
      intro n
      induction n with
      | zero => intro i h1; omega
      | succ n ih =>
        intro i h1 h2 ad' had
        refine g_iload_n hB 1 dX5_init_118 rfl rfl ?_
        refine g_bipush hB (nI 8) dX5_init_119 rfl ?_
        refine n_icmp_ge hB i 8 143 dX5_init_121 (by decide) (by omega) (by omega) (fun c_1 => ?_) (fun c_1 => ?_)
        · have hk : i = 8 := by omega
          subst hk
          exact g_sub _ rfl (ph3 ad' had)
        · refine g_aload_n hB 0 dX5_init_124 rfl rfl ?_
          refine g_get hB (ci := 5) (T := TX5) (N := 16) in_X5 rfl 0 0 3 (fs := [.int (S00 0 0 0), .int (S00 0 0 1), .ref (ad' 1 0), .ref (ad' 2 0), .ref (ad' 1 1), .int (S00 0 0 5), .ref (ad' 3 0), .int (S00 0 0 7), .ref (ad' 4 0), .int (S00 0 0 9), .int (S00 0 0 10), .int (S00 0 0 11), .ref (ad' 1 2), .ref (ad' 12 0), .ref (ad' 12 1), .ref (ad' 15 0)]) (v := .ref (ad' 2 0)) (show 0 < _ from Nat.zero_lt_one) (by decide) (rfl) tw_fl_X5_19 rfl dX5_init_125 ?_
          refine g_iload_n hB 1 dX5_init_128 rfl rfl ?_
          refine g_newo hB (C := RX4) (T := TX4) (N := 4) (ci := 4) in_X4 rfl tyX4 tyX4_ok 5 i rfl [.int 0, .int 0, .int 0, .int 0] df_X4 tw_cl_X5_17 tw_ins_X4 tw_ini_X4 dX5_init_129 ⟨by show _ ≤ _; dsimp only; omega, by show _ ≤ _; dsimp only; omega⟩ (fun q0 => ?_)
          refine g_dup hB rfl dX5_init_132 ?_
          refine g_callNN hB (host := RX5) (c_X4_init _ _ i (show i < i + 1 by omega)  (uE_s)) (Tw_good (WS_all tw_code_X4_init)) tw_ini_X4 (by decide) tw_im_X4_init rfl yk_X4_init ⟨Nat.le_of_ble_eq_true rfl, Nat.le_of_ble_eq_true rfl⟩ (rest := [.ref q0, .int (nI (i)), .ref (ad' 2 0)]) (congrArg (fun q => Value.ref q :: ([.ref q0, .int (nI (i)), .ref (ad' 2 0)] : List Value)) ((adU_s)).symm) (Nat.le_of_ble_eq_true rfl) ⟨by show _ ≤ _; dsimp only; omega, by show _ ≤ _; dsimp only; omega⟩ dX5_init_133 ?_
          rintro _ _ ⟨rfl, rfl⟩
          refine g_st (congrArg (fun q => [Value.ref q, .int (nI i), .ref (ad' 2 0)]) (show (adU ad' 5 i q0) 5 i = q0 from (adU_s)).symm) ?_
          refine g_aast hB 2 0 5 i 1 4 i (r := (RX4, TX4, 4)) (n := 8) (f := rfs ad' 5 i) (vs := [.int (nI 1), .int 0, .int 0, .int 0]) Nat.zero_lt_one (show i < i + 1 by omega) rfl (uE_s) rfl rfl c_1 (by decide) dX5_init_136 ?_
          refine g_iinc hB (nI (i + 1)) dX5_init_137 rfl (nI_1 _) (by decide) ?_
          refine g_goto hB 118 dX5_init_140 (by decide) ?_
          refine g_cn (cn2 := cnI (i + 1) 0 0) (fun k => ?_) (g_widen (k := 18 + (i + 1)) (n := 452 + 4 * (i + 1)) ?_ ?_ (g_E (E' := IE (adU ad' 5 i q0) ca (i + 1) 0 0) ?_ (g_sub _ rfl (ih (i + 1) (by omega) (by omega) _ had))))
          · match k with
            | 0 => rfl
            | 1 => rfl
            | 2 => rfl
            | 3 => rfl
            | 4 => rfl
            | 5 => rfl
            | 6 => rfl
            | 7 => rfl
            | 8 => rfl
            | 9 => rfl
            | 10 => rfl
            | 11 => rfl
            | 12 => rfl
            | 13 => rfl
            | 14 => rfl
            | 15 => rfl
            | 16 => rfl
            | 17 => rfl
            | 18 => rfl
            | 19 => rfl
            | 20 => rfl
            | 21 => rfl
            | (n + 22) => rfl
          · show _ ≤ _; dsimp only; omega
          · show _ ≤ _; dsimp only; omega
          · intro k j h
            match k, h with
            | 0, _ => rfl
            | 1, _ => rfl
            | 2, h => match j, h with
              | 0, _ => exact congrArg (fun f => Sum.inl (ca 1, 8, Sum.inr (Sum.inr (Sum.inr (Sum.inr f))))) (rfs_up (fun j hj => (show (adU ad' 5 i q0) 5 j = _ from (adU_n (fun z => by omega)).trans (rfl))) rfl)
              | (n + 1), h => exact absurd h (by show ¬ (n + 1 < 1); omega)
            | 3, _ => rfl
            | 4, _ => rfl
            | 5, h =>
              by_cases hj : j = i
              · subst hj
                refine (uE_n (fun z => absurd z.1 (by decide))).trans ((uE_s).trans ?_)
                rfl
              · refine (uE_n (fun z => absurd z.1 (by decide))).trans ((uE_n (fun z => hj z.2)).trans ((uE_n (fun z => hj z.2)).trans (rfl)))
            | 6, _ => rfl
            | 7, _ => rfl
            | 8, _ => rfl
            | 9, _ => rfl
            | 10, _ => rfl
            | 11, _ => rfl
            | 12, _ => rfl
            | 13, _ => rfl
            | 14, _ => rfl
            | 15, _ => rfl
            | 16, _ => rfl
            | 17, h => exact absurd h (Nat.not_lt_zero _)
            | 18, h => exact absurd h (Nat.not_lt_zero _)
            | 19, h => exact absurd h (Nat.not_lt_zero _)
            | 20, _ => rfl
            | 21, _ => rfl
            | (n + 22), h => exact absurd h (Nat.not_lt_zero _)
    intro ad' had
    refine g_iconst hB (nI 0) dX5_init_116 rfl ?_
    refine g_istore_n hB 1 dX5_init_117 rfl (by decide) ?_
    exact g_sub _ rfl (loop 9 0 (by omega) (by omega) ad' had)
  refine g_aload_n hB 0 dX5_init_0 rfl rfl ?_
  refine g_oinit hB tw_ml_X5_3 tw_im_objInit tw_code_objInit dX5_init_1 ⟨Nat.le_of_ble_eq_true rfl, Nat.le_of_ble_eq_true rfl⟩ ?_
  refine g_aload_n hB 0 dX5_init_4 rfl rfl ?_
  refine g_bipush hB (nI 12) dX5_init_5 rfl ?_
  refine g_put hB (ci := 5) (T := TX5) (N := 16) in_X5 rfl tyX5 tyX5_ok nmX5 0 0 1 (fs := [.int 0, .int 0, .null, .null, .null, .int 0, .null, .int 0, .null, .int 0, .int 0, .int 0, .null, .null, .null, .null]) (v := .int (nI 12)) (by decide) (by decide) (hE) tw_fl_X5_9 rfl rfl rfl (Nat.le_of_ble_eq_true rfl) dX5_init_7 ?_
  refine g_aload_n hB 0 dX5_init_10 rfl rfl ?_
  refine g_iconst hB (nI 4) dX5_init_11 rfl ?_
  refine g_newa hB 1 0 4 rfl (by decide) dX5_init_12 ⟨Nat.le_of_ble_eq_true rfl, Nat.le_of_ble_eq_true rfl⟩ (fun q0 => ?_)
  refine g_putF hB hnm (ci := 5) (T := TX5) (N := 16) in_X5 rfl tyX5 tyX5_ok nmX5 0 0 2 (fs := [.int 0, .int (nI 12), .null, .null, .null, .int 0, .null, .int 0, .null, .int 0, .int 0, .int 0, .null, .null, .null, .null]) (v := .ref q0) (by decide) (by decide) (((uE_n (fun z => absurd z.1 (by decide))).trans (uE_s))) tw_fl_X5_13 rfl rfl rfl rfl (Nat.le_of_ble_eq_true rfl) dX5_init_14 ?_
  refine g_aload_n hB 0 dX5_init_17 rfl rfl ?_
  refine g_bipush hB (nI 8) dX5_init_18 rfl ?_
  refine g_newq hB 2 0 8 1 rfl (by decide) rfl (by decide) tw_cl_X5_17 dX5_init_20 ⟨Nat.le_of_ble_eq_true rfl, Nat.le_of_ble_eq_true rfl⟩ (fun q1 => ?_)
  refine g_putF hB hnm (ci := 5) (T := TX5) (N := 16) in_X5 rfl tyX5 tyX5_ok nmX5 0 0 3 (fs := [.int 0, .int (nI 12), .ref q0, .null, .null, .int 0, .null, .int 0, .null, .int 0, .int 0, .int 0, .null, .null, .null, .null]) (v := .ref q1) (by decide) (by decide) (((uE_n (fun z => absurd z.1 (by decide))).trans (uE_s))) tw_fl_X5_19 rfl rfl rfl rfl (Nat.le_of_ble_eq_true rfl) dX5_init_23 ?_
  refine g_aload_n hB 0 dX5_init_26 rfl rfl ?_
  refine g_bipush hB (nI 10) dX5_init_27 rfl ?_
  refine g_newa hB 1 1 10 rfl (by decide) dX5_init_29 ⟨Nat.le_of_ble_eq_true rfl, Nat.le_of_ble_eq_true rfl⟩ (fun q2 => ?_)
  refine g_putF hB hnm (ci := 5) (T := TX5) (N := 16) in_X5 rfl tyX5 tyX5_ok nmX5 0 0 4 (fs := [.int 0, .int (nI 12), .ref q0, .ref q1, .null, .int 0, .null, .int 0, .null, .int 0, .int 0, .int 0, .null, .null, .null, .null]) (v := .ref q2) (by decide) (by decide) (((uE_n (fun z => absurd z.1 (by decide))).trans (uE_s))) tw_fl_X5_23 rfl rfl rfl rfl (Nat.le_of_ble_eq_true rfl) dX5_init_31 ?_
  refine g_aload_n hB 0 dX5_init_34 rfl rfl ?_
  refine g_iconst hB (nI 1) dX5_init_35 rfl ?_
  refine g_put hB (ci := 5) (T := TX5) (N := 16) in_X5 rfl tyX5 tyX5_ok nmX5 0 0 5 (fs := [.int 0, .int (nI 12), .ref q0, .ref q1, .ref q2, .int 0, .null, .int 0, .null, .int 0, .int 0, .int 0, .null, .null, .null, .null]) (v := .int (nI 1)) (by decide) (by decide) (uE_s) tw_fl_X5_26 rfl rfl rfl (Nat.le_of_ble_eq_true rfl) dX5_init_36 ?_
  refine g_aload_n hB 0 dX5_init_39 rfl rfl ?_
  refine g_bipush hB (nI 12) dX5_init_40 rfl ?_
  refine g_newq hB 3 0 12 2 rfl (by decide) rfl (by decide) tw_cl_X5_29 dX5_init_42 ⟨Nat.le_of_ble_eq_true rfl, Nat.le_of_ble_eq_true rfl⟩ (fun q3 => ?_)
  refine g_putF hB hnm (ci := 5) (T := TX5) (N := 16) in_X5 rfl tyX5 tyX5_ok nmX5 0 0 6 (fs := [.int 0, .int (nI 12), .ref q0, .ref q1, .ref q2, .int (nI 1), .null, .int 0, .null, .int 0, .int 0, .int 0, .null, .null, .null, .null]) (v := .ref q3) (by decide) (by decide) (((uE_n (fun z => absurd z.1 (by decide))).trans (uE_s))) tw_fl_X5_31 rfl rfl rfl rfl (Nat.le_of_ble_eq_true rfl) dX5_init_45 ?_
  refine g_aload_n hB 0 dX5_init_48 rfl rfl ?_
  refine g_bipush hB (nI 40) dX5_init_49 rfl ?_
  refine g_newq hB 4 0 40 3 rfl (by decide) rfl (by decide) tw_cl_X5_35 dX5_init_51 ⟨Nat.le_of_ble_eq_true rfl, Nat.le_of_ble_eq_true rfl⟩ (fun q4 => ?_)
  refine g_putF hB hnm (ci := 5) (T := TX5) (N := 16) in_X5 rfl tyX5 tyX5_ok nmX5 0 0 8 (fs := [.int 0, .int (nI 12), .ref q0, .ref q1, .ref q2, .int (nI 1), .ref q3, .int 0, .null, .int 0, .int 0, .int 0, .null, .null, .null, .null]) (v := .ref q4) (by decide) (by decide) (((uE_n (fun z => absurd z.1 (by decide))).trans (uE_s))) tw_fl_X5_37 rfl rfl rfl rfl (Nat.le_of_ble_eq_true rfl) dX5_init_54 ?_
  refine g_aload_n hB 0 dX5_init_57 rfl rfl ?_
  refine g_bipush hB (nI 6) dX5_init_58 rfl ?_
  refine g_newa hB 1 2 6 rfl (by decide) dX5_init_60 ⟨Nat.le_of_ble_eq_true rfl, Nat.le_of_ble_eq_true rfl⟩ (fun q5 => ?_)
  refine g_putF hB hnm (ci := 5) (T := TX5) (N := 16) in_X5 rfl tyX5 tyX5_ok nmX5 0 0 12 (fs := [.int 0, .int (nI 12), .ref q0, .ref q1, .ref q2, .int (nI 1), .ref q3, .int 0, .ref q4, .int 0, .int 0, .int 0, .null, .null, .null, .null]) (v := .ref q5) (by decide) (by decide) (((uE_n (fun z => absurd z.1 (by decide))).trans (uE_s))) tw_fl_X5_41 rfl rfl rfl rfl (Nat.le_of_ble_eq_true rfl) dX5_init_62 ?_
  refine g_aload_n hB 0 dX5_init_65 rfl rfl ?_
  refine g_newo hB (C := RX1) (T := TX1) (N := 2) (ci := 1) in_X1 rfl tyX1 tyX1_ok 12 0 rfl [.null, .null] df_X1 tw_cl_X5_44 tw_ins_X1 tw_ini_X1 dX5_init_66 ⟨Nat.le_of_ble_eq_true rfl, Nat.le_of_ble_eq_true rfl⟩ (fun q6 => ?_)
  refine g_dup hB rfl dX5_init_69 ?_
  refine g_callN hB (c_X1_init _ _ 0 (by decide) rfl rfl rfl (uE_s)) (Tw_good (WS_all tw_code_X1_init)) tw_ini_X1 tw_ml_X5_46 tw_im_X1_init rfl yk_X1_init ⟨Nat.le_of_ble_eq_true rfl, Nat.le_of_ble_eq_true rfl⟩ (rest := [.ref q6, .ref ((adU (adU (adU (adU (adU (adU (adU ad 1 0 q0) 2 0 q1) 1 1 q2) 3 0 q3) 4 0 q4) 1 2 q5) 12 0 q6) 0 0)]) rfl (Nat.le_of_ble_eq_true rfl) ⟨Nat.le_of_ble_eq_true rfl, Nat.le_of_ble_eq_true rfl⟩ dX5_init_70 ?_
  rintro _ _ ⟨q7, q8, q9, rfl, rfl⟩
  refine g_putF hB hnm (ci := 5) (T := TX5) (N := 16) in_X5 rfl tyX5 tyX5_ok nmX5 0 0 13 (fs := [.int 0, .int (nI 12), .ref q0, .ref q1, .ref q2, .int (nI 1), .ref q3, .int 0, .ref q4, .int 0, .int 0, .int 0, .ref q5, .null, .null, .null]) (v := .ref q6) (by decide) (by decide) (((uE_n (fun z => absurd z.1 (by decide))).trans ((uE_n (fun z => absurd z.1 (by decide))).trans ((uE_n (fun z => absurd z.1 (by decide))).trans ((uE_n (fun z => absurd z.1 (by decide))).trans ((uE_n (fun z => absurd z.1 (by decide))).trans (uE_s))))))) tw_fl_X5_47 rfl rfl rfl rfl (Nat.le_of_ble_eq_true rfl) dX5_init_73 ?_
  refine g_aload_n hB 0 dX5_init_76 rfl rfl ?_
  refine g_newo hB (C := RX1) (T := TX1) (N := 2) (ci := 1) in_X1 rfl tyX1 tyX1_ok 12 1 rfl [.null, .null] df_X1 tw_cl_X5_44 tw_ins_X1 tw_ini_X1 dX5_init_77 ⟨Nat.le_of_ble_eq_true rfl, Nat.le_of_ble_eq_true rfl⟩ (fun q10 => ?_)
  refine g_dup hB rfl dX5_init_80 ?_
  refine g_callN hB (c_X1_init _ _ 1 (by decide) rfl rfl rfl (uE_s)) (Tw_good (WS_all tw_code_X1_init)) tw_ini_X1 tw_ml_X5_46 tw_im_X1_init rfl yk_X1_init ⟨Nat.le_of_ble_eq_true rfl, Nat.le_of_ble_eq_true rfl⟩ (rest := [.ref q10, .ref ((adU (adU (adU (adU (adU (adU (adU (adU (adU (adU (adU ad 1 0 q0) 2 0 q1) 1 1 q2) 3 0 q3) 4 0 q4) 1 2 q5) 12 0 q6) 21 0 q7) 13 0 q8) 14 0 q9) 12 1 q10) 0 0)]) rfl (Nat.le_of_ble_eq_true rfl) ⟨Nat.le_of_ble_eq_true rfl, Nat.le_of_ble_eq_true rfl⟩ dX5_init_81 ?_
  rintro _ _ ⟨q11, q12, q13, rfl, rfl⟩
  refine g_putF hB hnm (ci := 5) (T := TX5) (N := 16) in_X5 rfl tyX5 tyX5_ok nmX5 0 0 14 (fs := [.int 0, .int (nI 12), .ref q0, .ref q1, .ref q2, .int (nI 1), .ref q3, .int 0, .ref q4, .int 0, .int 0, .int 0, .ref q5, .ref q6, .null, .null]) (v := .ref q10) (by decide) (by decide) (((uE_n (fun z => absurd z.1 (by decide))).trans ((uE_n (fun z => absurd z.1 (by decide))).trans ((uE_n (fun z => absurd z.1 (by decide))).trans ((uE_n (fun z => absurd z.1 (by decide))).trans ((uE_n (fun z => absurd z.1 (by decide))).trans (uE_s))))))) tw_fl_X5_51 rfl rfl rfl rfl (Nat.le_of_ble_eq_true rfl) dX5_init_84 ?_
  refine g_aload_n hB 0 dX5_init_87 rfl rfl ?_
  refine g_newo hB (C := RX3) (T := TX3) (N := 4) (ci := 3) in_X3 rfl tyX3 tyX3_ok 15 0 rfl [.null, .null, .null, .int 0] df_X3 tw_cl_X5_54 tw_ins_X3 tw_ini_X3 dX5_init_88 ⟨Nat.le_of_ble_eq_true rfl, Nat.le_of_ble_eq_true rfl⟩ (fun q14 => ?_)
  refine g_dup hB rfl dX5_init_91 ?_
  refine g_callNN hB (host := RX5) (c_X3_init _ _ (by decide) rfl (uE_s)) (Tw_good (WS_all tw_code_X3_init)) tw_ini_X3 (by decide) tw_im_X3_init rfl yk_X3_init ⟨Nat.le_of_ble_eq_true rfl, Nat.le_of_ble_eq_true rfl⟩ (rest := [.ref q14, .ref ((adU (adU (adU (adU (adU (adU (adU (adU (adU (adU (adU (adU (adU (adU (adU ad 1 0 q0) 2 0 q1) 1 1 q2) 3 0 q3) 4 0 q4) 1 2 q5) 12 0 q6) 21 0 q7) 13 0 q8) 14 0 q9) 12 1 q10) 21 1 q11) 13 1 q12) 14 1 q13) 15 0 q14) 0 0)]) rfl (Nat.le_of_ble_eq_true rfl) ⟨Nat.le_of_ble_eq_true rfl, Nat.le_of_ble_eq_true rfl⟩ dX5_init_92 ?_
  rintro _ _ ⟨q15, q16, q17, rfl, rfl⟩
  refine g_putF hB hnm (ci := 5) (T := TX5) (N := 16) in_X5 rfl tyX5 tyX5_ok nmX5 0 0 15 (fs := [.int 0, .int (nI 12), .ref q0, .ref q1, .ref q2, .int (nI 1), .ref q3, .int 0, .ref q4, .int 0, .int 0, .int 0, .ref q5, .ref q6, .ref q10, .null]) (v := .ref q14) (by decide) (by decide) (((uE_n (fun z => absurd z.1 (by decide))).trans ((uE_n (fun z => absurd z.1 (by decide))).trans ((uE_n (fun z => absurd z.1 (by decide))).trans ((uE_n (fun z => absurd z.1 (by decide))).trans ((uE_n (fun z => absurd z.1 (by decide))).trans (uE_s))))))) tw_fl_X5_57 rfl rfl rfl rfl (Nat.le_of_ble_eq_true rfl) dX5_init_95 ?_
  refine g_aload_n hB 0 dX5_init_98 rfl rfl ?_
  refine g_get hB (ci := 5) (T := TX5) (N := 16) in_X5 rfl 0 0 2 (fs := [.int 0, .int (nI 12), .ref q0, .ref q1, .ref q2, .int (nI 1), .ref q3, .int 0, .ref q4, .int 0, .int 0, .int 0, .ref q5, .ref q6, .ref q10, .ref q14]) (v := .ref q0) (by decide) (by decide) (uE_s) tw_fl_X5_13 rfl dX5_init_99 ?_
  refine g_sipush hB (nI 255) dX5_init_102 rfl ?_
  refine g_callSV hB (c_fill _ _ 1 0 4 (fun _ => 0) (nI 255) (by decide) (((uE_n (fun z => absurd z.1 (by decide))).trans ((uE_n (fun z => absurd z.1 (by decide))).trans ((uE_n (fun z => absurd z.1 (by decide))).trans ((uE_n (fun z => absurd z.1 (by decide))).trans ((uE_n (fun z => absurd z.1 (by decide))).trans ((uE_n (fun z => absurd z.1 (by decide))).trans ((uE_n (fun z => absurd z.1 (by decide))).trans ((uE_n (fun z => absurd z.1 (by decide))).trans ((uE_n (fun z => absurd z.1 (by decide))).trans ((uE_n (fun z => absurd z.1 (by decide))).trans ((uE_n (fun z => absurd z.1 (by decide))).trans ((uE_n (fun z => absurd z.1 (by decide))).trans ((uE_n (fun z => absurd z.1 (by decide))).trans ((uE_n (fun z => absurd z.1 (by decide))).trans ((uE_n (fun z => absurd z.1 (by decide))).trans ((uE_n (fun z => absurd z.1 (by decide))).trans ((uE_n (fun z => absurd z.1 (by decide))).trans ((uE_n (fun z => absurd z.1 (by decide))).trans ((uE_n (fun z => absurd z.1 (by decide))).trans ((uE_n (fun z => absurd z.2 (by decide))).trans ((uE_n (fun z => absurd z.1 (by decide))).trans ((uE_n (fun z => absurd z.1 (by decide))).trans ((uE_n (fun z => absurd z.1 (by decide))).trans ((uE_n (fun z => absurd z.1 (by decide))).trans ((uE_n (fun z => absurd z.1 (by decide))).trans ((uE_n (fun z => absurd z.1 (by decide))).trans ((uE_n (fun z => absurd z.2 (by decide))).trans ((uE_n (fun z => absurd z.1 (by decide))).trans ((uE_n (fun z => absurd z.1 (by decide))).trans ((uE_n (fun z => absurd z.1 (by decide))).trans (uE_s)))))))))))))))))))))))))))))))) (by decide)) k_X5_61 yk_J7_fill_53178 ⟨Nat.le_of_ble_eq_true rfl, Nat.le_of_ble_eq_true rfl⟩ (rest := []) (congrArg (fun q => [Value.int (nI 255), Value.ref q]) (((adU_n (fun z => absurd z.1 (by decide))).trans ((adU_n (fun z => absurd z.1 (by decide))).trans ((adU_n (fun z => absurd z.1 (by decide))).trans ((adU_n (fun z => absurd z.1 (by decide))).trans ((adU_n (fun z => absurd z.1 (by decide))).trans ((adU_n (fun z => absurd z.1 (by decide))).trans ((adU_n (fun z => absurd z.1 (by decide))).trans ((adU_n (fun z => absurd z.1 (by decide))).trans ((adU_n (fun z => absurd z.1 (by decide))).trans ((adU_n (fun z => absurd z.1 (by decide))).trans ((adU_n (fun z => absurd z.1 (by decide))).trans ((adU_n (fun z => absurd z.1 (by decide))).trans ((adU_n (fun z => absurd z.2 (by decide))).trans ((adU_n (fun z => absurd z.1 (by decide))).trans ((adU_n (fun z => absurd z.1 (by decide))).trans ((adU_n (fun z => absurd z.2 (by decide))).trans ((adU_n (fun z => absurd z.1 (by decide))).trans (adU_s))))))))))))))))))).symm) (Nat.le_of_ble_eq_true rfl) ⟨Nat.le_of_ble_eq_true rfl, Nat.le_of_ble_eq_true rfl⟩ dX5_init_105 ?_
  rintro _ rfl
  refine g_aload_n hB 0 dX5_init_108 rfl rfl ?_
  refine g_get hB (ci := 5) (T := TX5) (N := 16) in_X5 rfl 0 0 4 (fs := [.int 0, .int (nI 12), .ref q0, .ref q1, .ref q2, .int (nI 1), .ref q3, .int 0, .ref q4, .int 0, .int 0, .int 0, .ref q5, .ref q6, .ref q10, .ref q14]) (v := .ref q2) (by decide) (by decide) (((uE_n (fun z => absurd z.1 (by decide))).trans (uE_s))) tw_fl_X5_23 rfl dX5_init_109 ?_
  refine g_iconst hB (-1) dX5_init_112 rfl ?_
  refine g_callSV hB (c_fill _ _ 1 1 10 (fun _ => 0) (-1) (by decide) (((uE_n (fun z => absurd z.2 (by decide))).trans ((uE_n (fun z => absurd z.1 (by decide))).trans ((uE_n (fun z => absurd z.1 (by decide))).trans ((uE_n (fun z => absurd z.1 (by decide))).trans ((uE_n (fun z => absurd z.1 (by decide))).trans ((uE_n (fun z => absurd z.1 (by decide))).trans ((uE_n (fun z => absurd z.1 (by decide))).trans ((uE_n (fun z => absurd z.1 (by decide))).trans ((uE_n (fun z => absurd z.1 (by decide))).trans ((uE_n (fun z => absurd z.1 (by decide))).trans ((uE_n (fun z => absurd z.1 (by decide))).trans ((uE_n (fun z => absurd z.1 (by decide))).trans ((uE_n (fun z => absurd z.1 (by decide))).trans ((uE_n (fun z => absurd z.1 (by decide))).trans ((uE_n (fun z => absurd z.1 (by decide))).trans ((uE_n (fun z => absurd z.1 (by decide))).trans ((uE_n (fun z => absurd z.1 (by decide))).trans ((uE_n (fun z => absurd z.1 (by decide))).trans ((uE_n (fun z => absurd z.1 (by decide))).trans ((uE_n (fun z => absurd z.1 (by decide))).trans ((uE_n (fun z => absurd z.2 (by decide))).trans ((uE_n (fun z => absurd z.1 (by decide))).trans ((uE_n (fun z => absurd z.1 (by decide))).trans ((uE_n (fun z => absurd z.1 (by decide))).trans ((uE_n (fun z => absurd z.1 (by decide))).trans ((uE_n (fun z => absurd z.1 (by decide))).trans ((uE_n (fun z => absurd z.1 (by decide))).trans (uE_s))))))))))))))))))))))))))))) (by decide)) k_X5_61 yk_J7_fill_53178 ⟨Nat.le_of_ble_eq_true rfl, Nat.le_of_ble_eq_true rfl⟩ (rest := []) (congrArg (fun q => [Value.int (-1), Value.ref q]) (((adU_n (fun z => absurd z.1 (by decide))).trans ((adU_n (fun z => absurd z.1 (by decide))).trans ((adU_n (fun z => absurd z.1 (by decide))).trans ((adU_n (fun z => absurd z.1 (by decide))).trans ((adU_n (fun z => absurd z.1 (by decide))).trans ((adU_n (fun z => absurd z.1 (by decide))).trans ((adU_n (fun z => absurd z.1 (by decide))).trans ((adU_n (fun z => absurd z.1 (by decide))).trans ((adU_n (fun z => absurd z.1 (by decide))).trans ((adU_n (fun z => absurd z.1 (by decide))).trans ((adU_n (fun z => absurd z.1 (by decide))).trans ((adU_n (fun z => absurd z.1 (by decide))).trans ((adU_n (fun z => absurd z.2 (by decide))).trans ((adU_n (fun z => absurd z.1 (by decide))).trans ((adU_n (fun z => absurd z.1 (by decide))).trans (adU_s))))))))))))))))).symm) (Nat.le_of_ble_eq_true rfl) ⟨Nat.le_of_ble_eq_true rfl, Nat.le_of_ble_eq_true rfl⟩ dX5_init_113 ?_
  rintro _ rfl
  refine g_cn (cn2 := cnI 0 0 0) (fun k => ?_) (g_widen (k := 18) (n := 452) (Nat.le_of_ble_eq_true rfl) (Nat.le_of_ble_eq_true rfl) (g_E (E' := IE _ ca 0 0 0) ?_ (g_sub [(0, .ref (ad 0 0))] rfl (ph2 _ rfl))))
  · match k with
    | 0 => rfl
    | 1 => rfl
    | 2 => rfl
    | 3 => rfl
    | 4 => rfl
    | 5 => rfl
    | 6 => rfl
    | 7 => rfl
    | 8 => rfl
    | 9 => rfl
    | 10 => rfl
    | 11 => rfl
    | 12 => rfl
    | 13 => rfl
    | 14 => rfl
    | 15 => rfl
    | 16 => rfl
    | 17 => rfl
    | 18 => rfl
    | 19 => rfl
    | 20 => rfl
    | 21 => rfl
    | (n + 22) => rfl
  · intro k i h
    match k, h with
    | 0, h =>
      match i, h with
      | 0, _ => rfl
      | (n + 1), h => exact absurd h (by show ¬ (n + 1 < 1); omega)
    | 1, h =>
      match i, h with
      | 0, _ => rfl
      | 1, _ => rfl
      | 2, _ => rfl
      | (n + 3), h => exact absurd h (by show ¬ (n + 3 < 3); omega)
    | 2, h =>
      match i, h with
      | 0, _ => rfl
      | (n + 1), h => exact absurd h (by show ¬ (n + 1 < 1); omega)
    | 3, h =>
      match i, h with
      | 0, _ => rfl
      | (n + 1), h => exact absurd h (by show ¬ (n + 1 < 1); omega)
    | 4, h =>
      match i, h with
      | 0, _ => rfl
      | (n + 1), h => exact absurd h (by show ¬ (n + 1 < 1); omega)
    | 5, h => exact absurd h (Nat.not_lt_zero _)
    | 6, h => exact absurd h (Nat.not_lt_zero _)
    | 7, h => exact absurd h (Nat.not_lt_zero _)
    | 8, h => exact absurd h (Nat.not_lt_zero _)
    | 9, h => exact absurd h (Nat.not_lt_zero _)
    | 10, h => exact absurd h (Nat.not_lt_zero _)
    | 11, h => exact absurd h (Nat.not_lt_zero _)
    | 12, h =>
      match i, h with
      | 0, _ => rfl
      | 1, _ => rfl
      | (n + 2), h => exact absurd h (by show ¬ (n + 2 < 2); omega)
    | 13, h =>
      match i, h with
      | 0, _ => rfl
      | 1, _ => rfl
      | (n + 2), h => exact absurd h (by show ¬ (n + 2 < 2); omega)
    | 14, h =>
      match i, h with
      | 0, _ => rfl
      | 1, _ => rfl
      | (n + 2), h => exact absurd h (by show ¬ (n + 2 < 2); omega)
    | 15, h =>
      match i, h with
      | 0, _ => rfl
      | (n + 1), h => exact absurd h (by show ¬ (n + 1 < 1); omega)
    | 16, h =>
      match i, h with
      | 0, _ => rfl
      | 1, _ => rfl
      | 2, _ => rfl
      | (n + 3), h => exact absurd h (by show ¬ (n + 3 < 3); omega)
    | 17, h => exact absurd h (Nat.not_lt_zero _)
    | 18, h => exact absurd h (Nat.not_lt_zero _)
    | 19, h => exact absurd h (Nat.not_lt_zero _)
    | 20, h => exact absurd h (Nat.not_lt_zero _)
    | 21, h =>
      match i, h with
      | 0, _ => rfl
      | 1, _ => rfl
      | (n + 2), h => exact absurd h (by show ¬ (n + 2 < 2); omega)
    | (n + 22), h => exact absurd h (Nat.not_lt_zero _)
end X11
