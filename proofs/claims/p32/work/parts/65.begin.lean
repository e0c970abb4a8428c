/-! how both begin -/
theorem ov0 {n q : Nat} {v : Int32} (h : q < n) : ovl z0 0 n (fun _ => v) q = v := by
  have := ovl_in (f := z0) (b := 0) (v := fun _ => v) h
  rw [Nat.zero_add] at this
  exact this
theorem INV_0 : INV S00 1 0 0 0 12 0 0 := by
  have cz : ∀ p, p < 8 → cntI (0 : Int32) (nI p) = false := by decide +kernel
  have cb : ∀ p, p < 8 → bitI (0 : Int32) (nI p) = false := by decide +kernel
  have hp1 : S00 1 1 0 = -1 := by
    show ovl z0 0 10 (fun _ => -1) 0 = -1
    exact ov0 (by omega)
  refine ⟨⟨⟨rfl, by omega, by omega⟩, ⟨rfl, by omega⟩, ⟨rfl, by omega⟩, ⟨rfl, by omega⟩, ⟨rfl, by omega⟩, ⟨hp1, fun g h1 h2 => by omega⟩, fun i hi => by omega, fun c hc => by omega, fun i hi => rfl⟩,
    ⟨⟨rfl, by omega, by omega⟩, ⟨rfl, by omega⟩, ⟨rfl, by omega⟩, ⟨rfl, by omega⟩, ⟨rfl, by omega⟩, ⟨rfl, fun g h1 h2 => by omega⟩, fun m hm => by omega, fun q hq => Or.inl (ov0 (n := 792) hq), fun m hm => by omega⟩,
    ⟨⟨rfl, rfl, by omega⟩, rfl, by omega⟩, fun i hi => rfl, fun g hg => ?_, fun p hp => Or.inl ⟨rfl, rfl, rfl⟩, fun i hi => ⟨fun h => by omega, rfl⟩, ⟨fun i hi s hs k hk => ?_, fun i hi q hq => Or.inl (ov0 (n := 132) hq)⟩, fun c hc => by omega, fun c h1 h2 => ⟨rfl, rfl, ov0 (n := 40) h2, fun p hp => ov0 (n := 8) hp⟩, fun c hc => ⟨⟨0, by omega, rfl⟩, fun p hp => ?_⟩, fun q hq => ov0 (n := 132) hq, fun k o hk ho => ?_, ⟨fun c hc p hp => Or.inl (ov0 (n := 8) hp), fun p hp h => absurd rfl h⟩, fun c hc => by omega, ⟨fun c hc => by omega, fun c d hc => by omega, fun c hc => by omega⟩⟩
  · have : g = 0 := by omega
    subst this
    show ovl z0 0 10 (fun _ => -1) 0 = upd z0 0 (-1) 0
    rw [ov0 (by omega)]; rfl
  · have := csl_lt hi hs
    show ovl z0 0 792 (fun _ => -1) _ = ovl z0 0 132 (fun _ => -1) _
    rw [ov0 (by omega), ov0 (by omega)]
  · have e11 : S00 11 c p = -1 := ov0 (n := 8) hp
    rw [e11]
    show cntI 0 (nI p) = decide ((0 : Int32) = nI 1) ∧ cntI 0 (nI p) = _ ∧ _
    rw [cz p hp, decide_eq_false (p := (-1 : Int32) ≠ -1) (fun z => z rfl), Bool.false_and]
    exact ⟨by decide, rfl, fun z => absurd rfl z⟩
  · show cntI 0 (nI o) = bitI 0 (nI o) ∧ cntI 0 (nI o) = cntI 0 (nI k)
    rw [cz o (by omega), cb o (by omega), cz k (by omega)]
    exact ⟨rfl, rfl⟩
