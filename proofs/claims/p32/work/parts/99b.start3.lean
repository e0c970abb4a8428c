/-- from the entry, for every script of at most 260 ints, the law comes to its end with true -/
theorem whole_start {p : Program} {e : Env} {s : State} {m : MethodId} {below : List Frame} {meth : Method} {c : Code} (l : Launch) (hflags : l.flags = flags0) {b L : Nat} {xs : Nat → Int32} (hL : L ≤ 260) (C0 : lw_At p s m meth c b L xs) : W p l e room_1 s m #[Value.ref b] below meth c s.heap [] 0 0 (lw_Z below #[Value.ref b] s) (entryFrame m ([Value.ref b] : List Value).toArray 14) := by
  obtain ⟨hexec, hcode, hret, hml, hown, hts, hX, hbl, hlocks, hgv⟩ := C0
  have hl : l.stackTraces = false := by unfold Launch.stackTraces; rw [hflags]; decide +kernel
  have hn := flat_of_before _ hgv
  obtain ⟨D, ca, hK⟩ := st_kk hts hn
  have hB : MB p s m #[Value.ref b] meth c cL_law RL 14 D ca SR (fun q => s.heap.size ≤ q) :=
    ⟨hexec, hcode, hml, hown, fun w hw => hts w (Tw_in hw), hK, fun q hq => hq, st_zz hts hn (fun a ha z => Nat.not_le.mpr ha z), hlocks⟩
  have hbA : ¬ (fun q => s.heap.size ≤ q) b := Nat.not_le.mpr hbl
  rw [lg_entry_eq]
  refine law_begin (e := e) (l := l) (below := below) (Q := lw_Z below #[Value.ref b] s) hB hX hbl hbA hL hl ?_ s.heap [] _ ?_ va_S.rf (lv_entry [Value.ref b] (Nat.le_of_ble_eq_true rfl))
  · intro ad S K N lvs hK1 hN1
    intro H locs ls h1 h2 h3
    refine va_forget (fun q hq => h2.2.2 q hq) (W.widen hK1 hN1 ?_)
    exact lw_ret hexec hcode hret hlocks dL_law_497
  · exact ⟨fun k i k' i' hi => absurd hi (Nat.not_lt_zero _), fun k i hi => absurd hi (Nat.not_lt_zero _), fun k i hi => absurd hi (Nat.not_lt_zero _)⟩
