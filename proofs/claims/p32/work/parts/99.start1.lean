/-! the start: what the tables' words and the Statement give -/
theorem tb_of {w : Cond} (i : Nat) (h : tables_1[i]? = some w) : w ∈ lw_tbl := List.mem_append_right _ (List.mem_of_getElem? h)
section ST
variable {args : Array Value} {s : State}
theorem ty_int (h : (Cond.arrayClass .int).before args s = true) : ∃ cA, ArrOfT s cA .int ∧ va_RA s cA .int := by
  obtain ⟨cA, kA, comp, h1, h2, h3⟩ := Cond.arrayClass_spec h
  exact ⟨cA, fun n z => ⟨fun k h => (by cases h), kA, h2, comp, h3⟩, h1⟩
theorem ty_long (h : (Cond.arrayClass .long).before args s = true) : ∃ cA, ArrOfT s cA .long ∧ va_RA s cA .long := by
  obtain ⟨cA, kA, comp, h1, h2, h3⟩ := Cond.arrayClass_spec h
  exact ⟨cA, fun n z => ⟨fun k h => (by cases h), kA, h2, comp, h3⟩, h1⟩
theorem ty_obj {C : String} (h : (Cond.arrayOver (.object C)).before args s = true) : ∃ cA, ArrOfT s cA (.object C) ∧ va_RA s cA (.object C) := by
  obtain ⟨comp, c, k, h1, h2, h3, h4, h5⟩ := Cond.arrayOver_spec h
  exact ⟨c, fun n z => ⟨fun k h => (by cases h), k, h3, comp, h4⟩, k, comp, h3, h4, h1, h5⟩
theorem st_nw (hts : ∀ w ∈ lw_tbl, w.before args s = true) : ∀ q ∈ NWq, va_Nw (.methodLinkNest q.1 q.2.1 q.2.2.1 q.2.2.2) s := by
  unfold NWq
  exact List.forall_mem_cons.mpr ⟨va_Nw.of rfl (hts _ (tb_of 61 (by decide +kernel))), List.forall_mem_cons.mpr ⟨va_Nw.of rfl (hts _ (tb_of 81 (by decide +kernel))), List.forall_mem_cons.mpr ⟨va_Nw.of rfl (hts _ (tb_of 688 (by decide +kernel))), List.forall_mem_cons.mpr ⟨va_Nw.of rfl (hts _ (tb_of 694 (by decide +kernel))), List.forall_mem_cons.mpr ⟨va_Nw.of rfl (hts _ (tb_of 302 (by decide +kernel))), List.forall_mem_cons.mpr ⟨va_Nw.of rfl (hts _ (tb_of 566 (by decide +kernel))), List.forall_mem_cons.mpr ⟨va_Nw.of rfl (hts _ (tb_of 573 (by decide +kernel))), fun _ h => absurd h List.not_mem_nil⟩⟩⟩⟩⟩⟩⟩
theorem st_s {k : Nat} {tx : String} {cC : ClassId} (hc : s.vm.findClass RX5 = some cC) (h : (Cond.stringRef RX5 k tx).before args s = true) : ∃ a, vk_R RX5 k tx a s := by
  obtain ⟨-, -, -, a, -, -, -, -, -, hev⟩ := Cond.stringRef_spec hc h
  exact ⟨a, vk_R.of (A := args) h hev⟩
theorem st_sr {cC : ClassId} (hc : s.vm.findClass RX5 = some cC) (hts : ∀ w ∈ lw_tbl, w.before args s = true) : ∀ q ∈ SR, ∃ a, vk_R q.1 q.2.1 q.2.2 a s := by
  unfold SR
  exact List.forall_mem_cons.mpr ⟨st_s hc (hts _ (tb_of 259 (by decide +kernel))), List.forall_mem_cons.mpr ⟨st_s hc (hts _ (tb_of 362 (by decide +kernel))), List.forall_mem_cons.mpr ⟨st_s hc (hts _ (tb_of 378 (by decide +kernel))), List.forall_mem_cons.mpr ⟨st_s hc (hts _ (tb_of 389 (by decide +kernel))), List.forall_mem_cons.mpr ⟨st_s hc (hts _ (tb_of 439 (by decide +kernel))), List.forall_mem_cons.mpr ⟨st_s hc (hts _ (tb_of 488 (by decide +kernel))), List.forall_mem_cons.mpr ⟨st_s hc (hts _ (tb_of 492 (by decide +kernel))), List.forall_mem_cons.mpr ⟨st_s hc (hts _ (tb_of 512 (by decide +kernel))), List.forall_mem_cons.mpr ⟨st_s hc (hts _ (tb_of 528 (by decide +kernel))), List.forall_mem_cons.mpr ⟨st_s hc (hts _ (tb_of 668 (by decide +kernel))), List.forall_mem_cons.mpr ⟨st_s hc (hts _ (tb_of 669 (by decide +kernel))), List.forall_mem_cons.mpr ⟨st_s hc (hts _ (tb_of 670 (by decide +kernel))), List.forall_mem_cons.mpr ⟨st_s hc (hts _ (tb_of 689 (by decide +kernel))), List.forall_mem_cons.mpr ⟨st_s hc (hts _ (tb_of 707 (by decide +kernel))), List.forall_mem_cons.mpr ⟨st_s hc (hts _ (tb_of 721 (by decide +kernel))), List.forall_mem_cons.mpr ⟨st_s hc (hts _ (tb_of 726 (by decide +kernel))), List.forall_mem_cons.mpr ⟨st_s hc (hts _ (tb_of 734 (by decide +kernel))), List.forall_mem_cons.mpr ⟨st_s hc (hts _ (tb_of 740 (by decide +kernel))), List.forall_mem_cons.mpr ⟨st_s hc (hts _ (tb_of 745 (by decide +kernel))), List.forall_mem_cons.mpr ⟨st_s hc (hts _ (tb_of 765 (by decide +kernel))), List.forall_mem_cons.mpr ⟨st_s hc (hts _ (tb_of 773 (by decide +kernel))), fun _ h => absurd h List.not_mem_nil⟩⟩⟩⟩⟩⟩⟩⟩⟩⟩⟩⟩⟩⟩⟩⟩⟩⟩⟩⟩⟩
theorem st_xc (hts : ∀ w ∈ lw_tbl, w.before args s = true) : ∀ q ∈ XCq, va_Nw (.castable q q) s := by
  unfold XCq
  exact List.forall_mem_cons.mpr ⟨va_Nw.of rfl (hts _ (tb_of 355 (by decide +kernel))), List.forall_mem_cons.mpr ⟨va_Nw.of rfl (hts _ (tb_of 371 (by decide +kernel))), List.forall_mem_cons.mpr ⟨va_Nw.of rfl (hts _ (tb_of 220 (by decide +kernel))), fun _ h => absurd h List.not_mem_nil⟩⟩⟩
theorem st_xn : ∀ q ∈ XNq, va_Nc q.1 q.2 s := fun q h => absurd h List.not_mem_nil
theorem st_ao (hts : ∀ w ∈ lw_tbl, w.before args s = true) : ∀ q ∈ AOq, va_AO q s := by
  unfold AOq
  exact List.forall_mem_cons.mpr ⟨va_AO.of (hts _ (tb_of 25 (by decide +kernel))), List.forall_mem_cons.mpr ⟨va_AO.of (hts _ (tb_of 27 (by decide +kernel))), List.forall_mem_cons.mpr ⟨va_AO.of (hts _ (tb_of 29 (by decide +kernel))), fun _ h => absurd h List.not_mem_nil⟩⟩⟩
theorem st_xd (hts : ∀ w ∈ lw_tbl, w.before args s = true) : ∀ q ∈ XDq, va_Nw (.declares q) s := by
  unfold XDq
  exact List.forall_mem_cons.mpr ⟨va_Nw.of rfl (hts _ (tb_of 222 (by decide +kernel))), List.forall_mem_cons.mpr ⟨va_Nw.of rfl (hts _ (tb_of 224 (by decide +kernel))), List.forall_mem_cons.mpr ⟨va_Nw.of rfl (hts _ (tb_of 226 (by decide +kernel))), fun _ h => absurd h List.not_mem_nil⟩⟩⟩
theorem st_zz {A : Nat → Prop} (hts : ∀ w ∈ lw_tbl, w.before args s = true) (hn : ∀ c ∈ flatC (Jvm.Cond.and given_1 narrow_1), c.before args s = true) (hA : ∀ a : Nat, a < s.heap.size → ¬ A a) : ZZ A s s.heap :=
  ⟨vx_Zqof (args := args) (hts _ (tb_of 245 (by decide +kernel))) (hts _ (tb_of 9 (by decide +kernel))) (hn _ (by decide +kernel)) hA, vx_Zqof (args := args) (hts _ (tb_of 247 (by decide +kernel))) (hts _ (tb_of 9 (by decide +kernel))) (hn _ (by decide +kernel)) hA⟩
theorem st_kk (hts : ∀ w ∈ lw_tbl, w.before args s = true) (hn : ∀ c ∈ flatC (Jvm.Cond.and given_1 narrow_1), c.before args s = true) : ∃ (D : va_G) (ca : Nat → ClassId), KK D ca SR s := by
  have htw : ∀ w ∈ Tw, w.before args s = true := fun w hw => hts w (Tw_in hw)
  obtain ⟨d0, f0, k0⟩ := u_known (n := 8) htw in_X0 (htw _ tw_ins_X0)
  obtain ⟨d1, f1, k1⟩ := u_known (n := 2) htw in_X1 (htw _ tw_ins_X1)
  obtain ⟨d2, f2, k2⟩ := u_known (n := 6) htw in_X2 (htw _ tw_ins_X2)
  obtain ⟨d3, f3, k3⟩ := u_known (n := 4) htw in_X3 (htw _ tw_ins_X3)
  obtain ⟨d4, f4, k4⟩ := u_known (n := 4) htw in_X4 (htw _ tw_ins_X4)
  obtain ⟨d5, f5, k5⟩ := u_known (n := 16) htw in_X5 (htw _ tw_ins_X5)
  obtain ⟨d6, f6, k6⟩ := u_known (n := 1) htw in_X9 (htw _ tw_ins_X9)
  obtain ⟨c0, a0, b0⟩ := ty_int (hts _ (tb_of 49 (by decide +kernel)))
  obtain ⟨c1, a1, b1⟩ := ty_obj (C := RX4) (hts _ (tb_of 25 (by decide +kernel)))
  obtain ⟨c2, a2, b2⟩ := ty_obj (C := RX2) (hts _ (tb_of 27 (by decide +kernel)))
  obtain ⟨c3, a3, b3⟩ := ty_obj (C := RX0) (hts _ (tb_of 29 (by decide +kernel)))
  refine ⟨((fun i => match i with | 0 => d0 | 1 => d1 | 2 => d2 | 3 => d3 | 4 => d4 | 5 => d5 | _ => d6), (fun i => match i with | 0 => f0 | 1 => f1 | 2 => f2 | 3 => f3 | 4 => f4 | 5 => f5 | _ => f6)), (fun i => match i with | 0 => c0 | 1 => c1 | 2 => c2 | _ => c3), ⟨?_, ?_⟩, st_nw hts, st_sr k5.2.1 hts, st_xc hts, st_xn, st_ao hts, st_xd hts⟩
  · intro c q hq
    match c, hq with
    | 0, hq => cases hq; exact k0
    | 1, hq => cases hq; exact k1
    | 2, hq => cases hq; exact k2
    | 3, hq => cases hq; exact k3
    | 4, hq => cases hq; exact k4
    | 5, hq => cases hq; exact k5
    | 6, hq => cases hq; exact k6
    | n + 7, hq => cases hq
  · intro c q hq
    match c, hq with
    | 0, hq => cases hq; exact ⟨a0, b0⟩
    | 1, hq => cases hq; exact ⟨a1, b1⟩
    | 2, hq => cases hq; exact ⟨a2, b2⟩
    | 3, hq => cases hq; exact ⟨a3, b3⟩
    | n + 4, hq => cases hq
end ST
