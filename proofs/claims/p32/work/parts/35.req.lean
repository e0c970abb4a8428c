/-! the methods that throw: what arguments must be -/
section X6
variable {l : Launch} {D : va_G} {ad : Nat → Nat → Nat} {ca : Nat → ClassId}

theorem c_X5_requireKey (hl : l.stackTraces = false) (S : Mem) (x : Int32) : CXV l yX5_requireKey cX5_requireKey 1 none { frames := 6, cells := 1, slots := 6, locals := 82 } D ad CNT ca SR (SH ad ca S) [.int (x)] (fun E' => rgB x 6 = true ∧ E' = SH ad ca S) (fun X => X = xIO ∧ rgB x 6 = false) := by
  refine CXV.of _ RX5 (by decide +kernel) rfl (Nat.le_of_ble_eq_true rfl) ?_
  intro p9 e9 s9 m9 a9 b9 me9 c9 A9 hB hr hex
  refine g_iload_n hB 0 dX5_requireKey_0 rfl rfl ?_
  refine g_if_lt hB 10 dX5_requireKey_1 (by decide) (fun c_1 => ?_) (fun c_1 => ?_)
  · have e : rgB x 6 = false := rg1 c_1
    exact g_throwSW hl hB hex "no such key" th_IO (List.mem_of_getElem? (i := 6) rfl) dX5_requireKey_10 dX5_requireKey_13 dX5_requireKey_14 dX5_requireKey_17 dX5_requireKey_20 ⟨Nat.le_of_ble_eq_true rfl, Nat.le_of_ble_eq_true rfl, Nat.le_of_ble_eq_true rfl, Nat.le_of_ble_eq_true rfl⟩ ⟨Nat.le_of_ble_eq_true rfl, Nat.le_of_ble_eq_true rfl⟩ (⟨rfl, e⟩)
  · refine g_iload_n hB 0 dX5_requireKey_4 rfl rfl ?_
    refine g_bipush hB (nI 6) dX5_requireKey_5 rfl ?_
    refine g_icmp_lt hB 21 dX5_requireKey_7 (by decide) (fun c_7 => ?_) (fun c_7 => ?_)
    · have e : rgB x 6 = true := rg3 (by omega) c_1 (Int32.not_le.mpr c_7)
      exact g_vxret hB hr (Nat.le_of_ble_eq_true rfl) (Nat.le_of_ble_eq_true rfl) (⟨e, rfl⟩) dX5_requireKey_21
    · have e : rgB x 6 = false := rg2 (by omega) (Int32.not_lt.mp c_7)
      exact g_throwSW hl hB hex "no such key" th_IO (List.mem_of_getElem? (i := 6) rfl) dX5_requireKey_10 dX5_requireKey_13 dX5_requireKey_14 dX5_requireKey_17 dX5_requireKey_20 ⟨Nat.le_of_ble_eq_true rfl, Nat.le_of_ble_eq_true rfl, Nat.le_of_ble_eq_true rfl, Nat.le_of_ble_eq_true rfl⟩ ⟨Nat.le_of_ble_eq_true rfl, Nat.le_of_ble_eq_true rfl⟩ (⟨rfl, e⟩)
theorem c_X5_requirePerson (hl : l.stackTraces = false) (S : Mem) (x : Int32) : CXV l yX5_requirePerson cX5_requirePerson 1 none { frames := 6, cells := 1, slots := 6, locals := 82 } D ad CNT ca SR (SH ad ca S) [.int (x)] (fun E' => rgB x 8 = true ∧ E' = SH ad ca S) (fun X => X = xIO ∧ rgB x 8 = false) := by
  refine CXV.of _ RX5 (by decide +kernel) rfl (Nat.le_of_ble_eq_true rfl) ?_
  intro p9 e9 s9 m9 a9 b9 me9 c9 A9 hB hr hex
  refine g_iload_n hB 0 dX5_requirePerson_0 rfl rfl ?_
  refine g_if_lt hB 10 dX5_requirePerson_1 (by decide) (fun c_1 => ?_) (fun c_1 => ?_)
  · have e : rgB x 8 = false := rg1 c_1
    exact g_throwSW hl hB hex "no such person" th_IO (List.mem_of_getElem? (i := 9) rfl) dX5_requirePerson_10 dX5_requirePerson_13 dX5_requirePerson_14 dX5_requirePerson_17 dX5_requirePerson_20 ⟨Nat.le_of_ble_eq_true rfl, Nat.le_of_ble_eq_true rfl, Nat.le_of_ble_eq_true rfl, Nat.le_of_ble_eq_true rfl⟩ ⟨Nat.le_of_ble_eq_true rfl, Nat.le_of_ble_eq_true rfl⟩ (⟨rfl, e⟩)
  · refine g_iload_n hB 0 dX5_requirePerson_4 rfl rfl ?_
    refine g_bipush hB (nI 8) dX5_requirePerson_5 rfl ?_
    refine g_icmp_lt hB 21 dX5_requirePerson_7 (by decide) (fun c_7 => ?_) (fun c_7 => ?_)
    · have e : rgB x 8 = true := rg3 (by omega) c_1 (Int32.not_le.mpr c_7)
      exact g_vxret hB hr (Nat.le_of_ble_eq_true rfl) (Nat.le_of_ble_eq_true rfl) (⟨e, rfl⟩) dX5_requirePerson_21
    · have e : rgB x 8 = false := rg2 (by omega) (Int32.not_lt.mp c_7)
      exact g_throwSW hl hB hex "no such person" th_IO (List.mem_of_getElem? (i := 9) rfl) dX5_requirePerson_10 dX5_requirePerson_13 dX5_requirePerson_14 dX5_requirePerson_17 dX5_requirePerson_20 ⟨Nat.le_of_ble_eq_true rfl, Nat.le_of_ble_eq_true rfl, Nat.le_of_ble_eq_true rfl, Nat.le_of_ble_eq_true rfl⟩ ⟨Nat.le_of_ble_eq_true rfl, Nat.le_of_ble_eq_true rfl⟩ (⟨rfl, e⟩)
theorem c_X5_requireGroup (hl : l.stackTraces = false) (S : Mem) (x : Int32) (ng : Nat) (hg : S 0 0 5 = nI ng) (hng : ng ≤ 10) : CXV l yX5_requireGroup cX5_requireGroup 2 none { frames := 6, cells := 1, slots := 6, locals := 82 } D ad CNT ca SR (SH ad ca S) [.ref (ad 0 0), .int (x)] (fun E' => rgB x ng = true ∧ E' = SH ad ca S) (fun X => X = xIO ∧ rgB x ng = false) := by
  refine CXV.of _ RX5 (by decide +kernel) rfl (Nat.le_of_ble_eq_true rfl) ?_
  intro p9 e9 s9 m9 a9 b9 me9 c9 A9 hB hr hex
  refine g_iload_n hB 1 dX5_requireGroup_0 rfl rfl ?_
  refine g_if_lt hB 12 dX5_requireGroup_1 (by decide) (fun c_1 => ?_) (fun c_1 => ?_)
  · have e : rgB x ng = false := rg1 c_1
    exact g_throwSW hl hB hex "no such group" th_IO (List.mem_of_getElem? (i := 1) rfl) dX5_requireGroup_12 dX5_requireGroup_15 dX5_requireGroup_16 dX5_requireGroup_19 dX5_requireGroup_22 ⟨Nat.le_of_ble_eq_true rfl, Nat.le_of_ble_eq_true rfl, Nat.le_of_ble_eq_true rfl, Nat.le_of_ble_eq_true rfl⟩ ⟨Nat.le_of_ble_eq_true rfl, Nat.le_of_ble_eq_true rfl⟩ (⟨rfl, e⟩)
  · refine g_iload_n hB 1 dX5_requireGroup_4 rfl rfl ?_
    refine g_aload_n hB 0 dX5_requireGroup_5 rfl rfl ?_
    refine g_get (ci := 5) (T := TX5) (N := 16) hB in_X5 rfl 0 0 5 (by decide) (by decide) rfl tw_fl_X5_26 rfl dX5_requireGroup_6 ?_
    refine g_top (nI ng) (hg) ?_
    refine g_icmp_lt hB 23 dX5_requireGroup_9 (by decide) (fun c_9 => ?_) (fun c_9 => ?_)
    · have e : rgB x ng = true := rg3 (by omega) c_1 (Int32.not_le.mpr c_9)
      exact g_vxret hB hr (Nat.le_of_ble_eq_true rfl) (Nat.le_of_ble_eq_true rfl) (⟨e, rfl⟩) dX5_requireGroup_23
    · have e : rgB x ng = false := rg2 (by omega) (Int32.not_lt.mp c_9)
      exact g_throwSW hl hB hex "no such group" th_IO (List.mem_of_getElem? (i := 1) rfl) dX5_requireGroup_12 dX5_requireGroup_15 dX5_requireGroup_16 dX5_requireGroup_19 dX5_requireGroup_22 ⟨Nat.le_of_ble_eq_true rfl, Nat.le_of_ble_eq_true rfl, Nat.le_of_ble_eq_true rfl, Nat.le_of_ble_eq_true rfl⟩ ⟨Nat.le_of_ble_eq_true rfl, Nat.le_of_ble_eq_true rfl⟩ (⟨rfl, e⟩)
theorem c_X5_requireMachine (hl : l.stackTraces = false) (S : Mem) (x : Int32) (nm : Nat) (hm : S 0 0 7 = nI nm) (hnm : nm ≤ 12) : CXV l yX5_requireMachine cX5_requireMachine 2 none { frames := 6, cells := 1, slots := 6, locals := 82 } D ad CNT ca SR (SH ad ca S) [.ref (ad 0 0), .int (x)] (fun E' => rgB x nm = true ∧ E' = SH ad ca S) (fun X => X = xIO ∧ rgB x nm = false) := by
  refine CXV.of _ RX5 (by decide +kernel) rfl (Nat.le_of_ble_eq_true rfl) ?_
  intro p9 e9 s9 m9 a9 b9 me9 c9 A9 hB hr hex
  refine g_iload_n hB 1 dX5_requireMachine_0 rfl rfl ?_
  refine g_if_lt hB 12 dX5_requireMachine_1 (by decide) (fun c_1 => ?_) (fun c_1 => ?_)
  · have e : rgB x nm = false := rg1 c_1
    exact g_throwSW hl hB hex "no such machine" th_IO (List.mem_of_getElem? (i := 7) rfl) dX5_requireMachine_12 dX5_requireMachine_15 dX5_requireMachine_16 dX5_requireMachine_19 dX5_requireMachine_22 ⟨Nat.le_of_ble_eq_true rfl, Nat.le_of_ble_eq_true rfl, Nat.le_of_ble_eq_true rfl, Nat.le_of_ble_eq_true rfl⟩ ⟨Nat.le_of_ble_eq_true rfl, Nat.le_of_ble_eq_true rfl⟩ (⟨rfl, e⟩)
  · refine g_iload_n hB 1 dX5_requireMachine_4 rfl rfl ?_
    refine g_aload_n hB 0 dX5_requireMachine_5 rfl rfl ?_
    refine g_get (ci := 5) (T := TX5) (N := 16) hB in_X5 rfl 0 0 7 (by decide) (by decide) rfl tw_fl_X5_127 rfl dX5_requireMachine_6 ?_
    refine g_top (nI nm) (hm) ?_
    refine g_icmp_lt hB 23 dX5_requireMachine_9 (by decide) (fun c_9 => ?_) (fun c_9 => ?_)
    · have e : rgB x nm = true := rg3 (by omega) c_1 (Int32.not_le.mpr c_9)
      exact g_vxret hB hr (Nat.le_of_ble_eq_true rfl) (Nat.le_of_ble_eq_true rfl) (⟨e, rfl⟩) dX5_requireMachine_23
    · have e : rgB x nm = false := rg2 (by omega) (Int32.not_lt.mp c_9)
      exact g_throwSW hl hB hex "no such machine" th_IO (List.mem_of_getElem? (i := 7) rfl) dX5_requireMachine_12 dX5_requireMachine_15 dX5_requireMachine_16 dX5_requireMachine_19 dX5_requireMachine_22 ⟨Nat.le_of_ble_eq_true rfl, Nat.le_of_ble_eq_true rfl, Nat.le_of_ble_eq_true rfl, Nat.le_of_ble_eq_true rfl⟩ ⟨Nat.le_of_ble_eq_true rfl, Nat.le_of_ble_eq_true rfl⟩ (⟨rfl, e⟩)
theorem c_X5_requirePlace (hl : l.stackTraces = false) (S : Mem) (x : Int32) (ng nm : Nat) (hg : S 0 0 5 = nI ng) (hng : ng ≤ 10) (hm : S 0 0 7 = nI nm) (hnm : nm ≤ 12) : CXV l yX5_requirePlace cX5_requirePlace 2 none { frames := 6, cells := 1, slots := 6, locals := 82 } D ad CNT ca SR (SH ad ca S) [.ref (ad 0 0), .int (x)] (fun E' => slF x ng nm ≠ -1 ∧ E' = SH ad ca S) (fun X => X = xIO ∧ slF x ng nm = -1) := by
  refine CXV.of _ RX5 (by decide +kernel) rfl (Nat.le_of_ble_eq_true rfl) ?_
  intro p9 e9 s9 m9 a9 b9 me9 c9 A9 hB hr hex
  refine g_aload_n hB 0 dX5_requirePlace_0 rfl rfl ?_
  refine g_iload_n hB 1 dX5_requirePlace_1 rfl rfl ?_
  refine g_callVI hB (c_X5_slotOf _ _ ng nm hg hng hm hnm) k_X5_168 rfl yk_X5_slotOf ⟨Nat.le_of_ble_eq_true rfl, Nat.le_of_ble_eq_true rfl⟩ ⟨(by decide), _, _, _, rfl, rfl, rfl⟩ rfl (Nat.le_of_ble_eq_true rfl) ⟨Nat.le_of_ble_eq_true rfl, Nat.le_of_ble_eq_true rfl⟩ dX5_requirePlace_2 ?_
  rintro _ _ ⟨rfl, rfl⟩
  refine g_iconst hB (-1) dX5_requirePlace_5 rfl ?_
  refine g_icmp_ne hB 20 dX5_requirePlace_6 (by decide) (fun c_6 => ?_) (fun c_6 => ?_)
  · exact g_vxret hB hr (Nat.le_of_ble_eq_true rfl) (Nat.le_of_ble_eq_true rfl) (⟨c_6, rfl⟩) dX5_requirePlace_20
  · exact g_throwSW hl hB hex "no such place" th_IO (List.mem_of_getElem? (i := 5) rfl) dX5_requirePlace_9 dX5_requirePlace_12 dX5_requirePlace_13 dX5_requirePlace_16 dX5_requirePlace_19 ⟨Nat.le_of_ble_eq_true rfl, Nat.le_of_ble_eq_true rfl, Nat.le_of_ble_eq_true rfl, Nat.le_of_ble_eq_true rfl⟩ ⟨Nat.le_of_ble_eq_true rfl, Nat.le_of_ble_eq_true rfl⟩ (⟨rfl, c_6⟩)
theorem c_X5_requireChange (hl : l.stackTraces = false) (S : Mem) (x : Int32) (nc : Nat) (hc : S 0 0 9 = nI nc) (hnc : nc ≤ 40) : CXV l yX5_requireChange cX5_requireChange 2 none { frames := 6, cells := 1, slots := 6, locals := 82 } D ad CNT ca SR (SH ad ca S) [.ref (ad 0 0), .int (x)] (fun E' => rgB x nc = true ∧ E' = SH ad ca S) (fun X => X = xIO ∧ rgB x nc = false) := by
  refine CXV.of _ RX5 (by decide +kernel) rfl (Nat.le_of_ble_eq_true rfl) ?_
  intro p9 e9 s9 m9 a9 b9 me9 c9 A9 hB hr hex
  refine g_aload_n hB 0 dX5_requireChange_0 rfl rfl ?_
  refine g_iload_n hB 1 dX5_requireChange_1 rfl rfl ?_
  refine g_callVI hB (c_X5_isChange _ _ nc hc hnc) k_X5_285 rfl yk_X5_isChange ⟨Nat.le_of_ble_eq_true rfl, Nat.le_of_ble_eq_true rfl⟩ ⟨(by decide), _, _, _, rfl, rfl, rfl⟩ rfl (Nat.le_of_ble_eq_true rfl) ⟨Nat.le_of_ble_eq_true rfl, Nat.le_of_ble_eq_true rfl⟩ dX5_requireChange_2 ?_
  rintro _ _ ⟨rfl, rfl⟩
  refine b_if_ne hB (rgB x nc) 19 dX5_requireChange_5 (by decide) (fun c_5 => ?_) (fun c_5 => ?_)
  · exact g_vxret hB hr (Nat.le_of_ble_eq_true rfl) (Nat.le_of_ble_eq_true rfl) (⟨c_5, rfl⟩) dX5_requireChange_19
  · exact g_throwSW hl hB hex "no such change" th_IO (List.mem_of_getElem? (i := 4) rfl) dX5_requireChange_8 dX5_requireChange_11 dX5_requireChange_12 dX5_requireChange_15 dX5_requireChange_18 ⟨Nat.le_of_ble_eq_true rfl, Nat.le_of_ble_eq_true rfl, Nat.le_of_ble_eq_true rfl, Nat.le_of_ble_eq_true rfl⟩ ⟨Nat.le_of_ble_eq_true rfl, Nat.le_of_ble_eq_true rfl⟩ (⟨rfl, c_5⟩)
end X6
