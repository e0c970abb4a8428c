/-! the law: sets -/
section L11
variable {l : Launch} {D : va_G} {ad : Nat → Nat → Nat} {ca : Nat → ClassId}
theorem xor_z (x : Int32) : x ^^^ nI 0 = x := by
  apply Int32.toBitVec_inj.mp
  show x.toBitVec ^^^ 0#32 = x.toBitVec
  simp
theorem exA_gh {S : Mem} {k o : Nat} : ∀ b, b ≠ 17 → b ≠ 18 → b ≠ 19 → exA S k o b = uM (uM S 22 6 k (S 22 6 k ^^^ (nI 1 <<< (nI o &&& 31)))) 22 6 o (S 22 6 o ^^^ (nI 1 <<< (nI k &&& 31))) b := fun b h17 h18 _ => by
  funext i j
  simp [exA, uM_ap, h17, h18]
theorem duA_gh {S : Mem} {i d : Nat} : ∀ b, b ≠ 17 → b ≠ 18 → b ≠ 19 → duA S i d b = uM S 22 0 (6 + i) (nI d) b := fun b h17 h18 _ => by
  funext x y
  simp [duA, uM_ap, h17, h18]
theorem spA_gh {S : Mem} {d : Nat} : ∀ b, b ≠ 17 → b ≠ 18 → b ≠ 19 → spA S d b = uM S 22 0 1 (nI d) b := fun b h17 h18 _ => by
  funext x y
  simp [spA, uM_ap, h17]

theorem c_L_sets (hl : l.stackTraces = false) (S : Mem) (ng nm nc t pa rk mo kk : Nat) (h : INV S ng nm nc t pa rk mo) (hL : LR S ng nm nc t pa rk) (hH : LH S nm t) (ht : t ≤ 60 * kk) (hmo : mo ≤ kk) (v : Int32) : CI l yL_sets cL_sets 9 (some .boolean) { frames := 8, cells := 5, slots := 30, locals := 126 } D ad CNT ca SR (SH ad ca S) [.ref (ad 0 0), .int (v), .ref (ad 22 0), .ref (ad 22 6)] (TPP ad ca kk) := by
  have hL0 := hL
  obtain ⟨⟨⟨q0, q1, q2, q3, q4, q5⟩, hng1, hng4, hnm3, hnc12, ht20, hrk20, hpa12⟩, hD, hG, hN, hT, hZ, hC, hCz, hA, hGa, hE⟩ := hL
  have hTI : TI S kk := ⟨ng, nm, nc, t, pa, rk, mo, h, hL0, hH, ht, hmo⟩
  have hEx : ∀ k, k < 6 → ∀ o, o < 6 → cntI (S 1 2 k) (nI o) = bitI (S 18 15 k) (nI o) := fun k hk o ho => (h.2.2.2.2.2.2.2.2.2.2.2.2.1 k o hk ho).1
  have hDu := h.2.2.2.1
  refine CI.of _ RL (by decide +kernel) rfl (Nat.le_of_ble_eq_true rfl) ?_
  intro p9 e9 s9 m9 a9 b9 me9 c9 A9 hB hr hnm9
  have excl : ∀ (k o : Nat), k < 4 → o < 4 → k ≠ o → G p9 l e9 { frames := 8, cells := 5, slots := 30, locals := 126 } s9 m9 a9 b9 me9 c9 D ad A9 9 (MQ b9 (va_Qi (TPP ad ca kk) (fun E' t => WW D ad CNT A9 E' t.heap) A9) a9 s9 5 30 A9) 0 0 CNT (SH ad ca (S)) 38 [(0, .ref (ad 0 0)), (1, .int (v)), (2, .ref (ad 22 0)), (3, .ref (ad 22 6)), (5, .int (nI k)), (6, .int (nI o))] [] := by
    intro k o hk ho hko
    have s00 : bitI (S 18 15 k) (nI o) = false → G p9 l e9 { frames := 8, cells := 5, slots := 30, locals := 126 } s9 m9 a9 b9 me9 c9 D ad A9 9 (MQ b9 (va_Qi (TPP ad ca kk) (fun E' t => WW D ad CNT A9 E' t.heap) A9) a9 s9 5 30 A9) 0 0 CNT (SH ad ca (S)) 76 [(0, .ref (ad 0 0)), (1, .int (v)), (2, .ref (ad 22 0)), (3, .ref (ad 22 6)), (5, .int (nI k)), (6, .int (nI o)), (7, .int (nI 0)), (8, .int (nI 0))] [] := by
      intro hb
      have hcn : cntI (S 1 2 k) (nI o) = false := (hEx k (by omega) o (by omega)).trans hb
      refine g_aload_n hB 3 dL_sets_76 rfl rfl ?_
      refine g_iload hB 5 dL_sets_77 rfl ?_
      refine g_dup2 hB rfl rfl dL_sets_79 ?_
      refine g_iald hB 22 6 k (n := 4) (by decide) rfl (by first | assumption | omega) (Nat.le_of_ble_eq_true rfl) dL_sets_80 ?_
      refine g_iload hB 7 dL_sets_81 rfl ?_
      refine g_iload hB 8 dL_sets_83 rfl ?_
      refine n_icmp_eq hB 0 0 95 dL_sets_85 (by decide) (by decide) (by decide) (fun _ => ?_) (fun z => absurd z (by decide))
      refine g_iconst hB (nI 0) dL_sets_95 rfl ?_
      refine g_ixor hB dL_sets_96 ?_
      refine g_top ((S 22 6 k)) (xor_z _) ?_
      refine s_iast hB 22 6 k (n := 4) (by decide) (fun _ => rfl) (by first | assumption | omega) (Nat.le_of_ble_eq_true rfl) dL_sets_97 ?_
      refine s_eq S uM_self ?_
      refine g_aload_n hB 3 dL_sets_98 rfl rfl ?_
      refine g_iload hB 6 dL_sets_99 rfl ?_
      refine g_dup2 hB rfl rfl dL_sets_101 ?_
      refine g_iald hB 22 6 o (n := 4) (by decide) rfl (by first | assumption | omega) (Nat.le_of_ble_eq_true rfl) dL_sets_102 ?_
      refine g_iload hB 7 dL_sets_103 rfl ?_
      refine g_iload hB 8 dL_sets_105 rfl ?_
      refine n_icmp_eq hB 0 0 117 dL_sets_107 (by decide) (by decide) (by decide) (fun _ => ?_) (fun z => absurd z (by decide))
      refine g_iconst hB (nI 0) dL_sets_117 rfl ?_
      refine g_ixor hB dL_sets_118 ?_
      refine g_top ((S 22 6 o)) (xor_z _) ?_
      refine s_iast hB 22 6 o (n := 4) (by decide) (fun _ => rfl) (by first | assumption | omega) (Nat.le_of_ble_eq_true rfl) dL_sets_119 ?_
      refine s_eq S uM_self ?_
      refine g_gh (uM S 17 0 0 (nI 0)) (fun _ h17 _ _ => funext fun _ => uM_k (fun z => h17 z.1)) ?_
      refine g_aload_n hB 0 dL_sets_120 rfl rfl ?_
      refine g_iload hB 5 dL_sets_121 rfl ?_
      refine g_iload hB 6 dL_sets_123 rfl ?_
      refine g_iload hB 8 dL_sets_125 rfl ?_
      refine g_callNVI hB (c_X5_exclude hl _ _ _ false) k_L_143 rfl yk_X5_exclude ⟨Nat.le_of_ble_eq_true rfl, Nat.le_of_ble_eq_true rfl⟩ ⟨(by decide), _, _, _, rfl, rfl, rfl⟩ rfl (Nat.le_of_ble_eq_true rfl) ⟨Nat.le_of_ble_eq_true rfl, Nat.le_of_ble_eq_true rfl⟩ dL_sets_127 (fun X hX => nx_of (exC_0 hk ho hko) hX) ?_
      rintro _ _ ⟨-, rfl, rfl⟩
      refine g_top (nI (0)) (by rw [ix_nI (by omega)]; show bI (cntI (S 1 2 k) (nI o)) = nI 0; rw [hcn]; rfl) ?_
      refine g_iload hB 7 dL_sets_130 rfl ?_
      refine n_icmp_ne hB 0 0 139 dL_sets_132 (by decide) (by decide) (by decide) (fun z => absurd z (by decide)) (fun _ => ?_)
      refine g_iconst hB (nI 1) dL_sets_135 rfl ?_
      refine g_goto hB 140 dL_sets_136 (by decide) ?_
      exact g_iret hB hr rfl (Nat.le_of_ble_eq_true rfl) (Nat.le_of_ble_eq_true rfl) (⟨_, rfl, rfl, by rw [ix_nI (by omega), ix_nI (by omega)]; exact TI_ex0 h hL0 hH ht hmo hk ho hko hb⟩) dL_sets_140
    have s01 : bitI (S 18 15 k) (nI o) = false → G p9 l e9 { frames := 8, cells := 5, slots := 30, locals := 126 } s9 m9 a9 b9 me9 c9 D ad A9 9 (MQ b9 (va_Qi (TPP ad ca kk) (fun E' t => WW D ad CNT A9 E' t.heap) A9) a9 s9 5 30 A9) 0 0 CNT (SH ad ca (S)) 76 [(0, .ref (ad 0 0)), (1, .int (v)), (2, .ref (ad 22 0)), (3, .ref (ad 22 6)), (5, .int (nI k)), (6, .int (nI o)), (7, .int (nI 0)), (8, .int (nI 1))] [] := by
      intro hb
      have hcn : cntI (S 1 2 k) (nI o) = false := (hEx k (by omega) o (by omega)).trans hb
      refine g_aload_n hB 3 dL_sets_76 rfl rfl ?_
      refine g_iload hB 5 dL_sets_77 rfl ?_
      refine g_dup2 hB rfl rfl dL_sets_79 ?_
      refine g_iald hB 22 6 k (n := 4) (by decide) rfl (by first | assumption | omega) (Nat.le_of_ble_eq_true rfl) dL_sets_80 ?_
      refine g_iload hB 7 dL_sets_81 rfl ?_
      refine g_iload hB 8 dL_sets_83 rfl ?_
      refine n_icmp_eq hB 0 1 95 dL_sets_85 (by decide) (by decide) (by decide) (fun z => absurd z (by decide)) (fun _ => ?_)
      refine g_iconst hB (nI 1) dL_sets_88 rfl ?_
      refine g_iload hB 6 dL_sets_89 rfl ?_
      refine g_ishl hB dL_sets_91 ?_
      refine g_goto hB 96 dL_sets_92 (by decide) ?_
      refine g_ixor hB dL_sets_96 ?_
      refine s_iast hB 22 6 k (n := 4) (by decide) (fun _ => rfl) (by first | assumption | omega) (Nat.le_of_ble_eq_true rfl) dL_sets_97 ?_
      refine g_aload_n hB 3 dL_sets_98 rfl rfl ?_
      refine g_iload hB 6 dL_sets_99 rfl ?_
      refine g_dup2 hB rfl rfl dL_sets_101 ?_
      refine g_iald hB 22 6 o (n := 4) (by decide) rfl (by first | assumption | omega) (Nat.le_of_ble_eq_true rfl) dL_sets_102 ?_
      refine g_top ((S 22 6 o)) (uM_n (by omega)) ?_
      refine g_iload hB 7 dL_sets_103 rfl ?_
      refine g_iload hB 8 dL_sets_105 rfl ?_
      refine n_icmp_eq hB 0 1 117 dL_sets_107 (by decide) (by decide) (by decide) (fun z => absurd z (by decide)) (fun _ => ?_)
      refine g_iconst hB (nI 1) dL_sets_110 rfl ?_
      refine g_iload hB 5 dL_sets_111 rfl ?_
      refine g_ishl hB dL_sets_113 ?_
      refine g_goto hB 118 dL_sets_114 (by decide) ?_
      refine g_ixor hB dL_sets_118 ?_
      refine s_iast hB 22 6 o (n := 4) (by decide) (fun _ => rfl) (by first | assumption | omega) (Nat.le_of_ble_eq_true rfl) dL_sets_119 ?_
      refine g_gh (exA S k o) exA_gh ?_
      refine g_aload_n hB 0 dL_sets_120 rfl rfl ?_
      refine g_iload hB 5 dL_sets_121 rfl ?_
      refine g_iload hB 6 dL_sets_123 rfl ?_
      refine g_iload hB 8 dL_sets_125 rfl ?_
      refine g_callNVI hB (c_X5_exclude hl _ _ _ true) k_L_143 rfl yk_X5_exclude ⟨Nat.le_of_ble_eq_true rfl, Nat.le_of_ble_eq_true rfl⟩ ⟨(by decide), _, _, _, rfl, rfl, rfl⟩ rfl (Nat.le_of_ble_eq_true rfl) ⟨Nat.le_of_ble_eq_true rfl, Nat.le_of_ble_eq_true rfl⟩ dL_sets_127 (fun X hX => nx_of (exC_0 hk ho hko) hX) ?_
      rintro _ _ ⟨-, rfl, rfl⟩
      refine g_top (nI (0)) (by rw [ix_nI (by omega)]; show bI (cntI (S 1 2 k) (nI o)) = nI 0; rw [hcn]; rfl) ?_
      refine g_iload hB 7 dL_sets_130 rfl ?_
      refine n_icmp_ne hB 0 0 139 dL_sets_132 (by decide) (by decide) (by decide) (fun z => absurd z (by decide)) (fun _ => ?_)
      refine g_iconst hB (nI 1) dL_sets_135 rfl ?_
      refine g_goto hB 140 dL_sets_136 (by decide) ?_
      exact g_iret hB hr rfl (Nat.le_of_ble_eq_true rfl) (Nat.le_of_ble_eq_true rfl) (⟨_, rfl, rfl, by rw [ix_nI (by omega), ix_nI (by omega)]; exact TI_ex1 h hL0 hH ht hmo hk ho hko hb⟩) dL_sets_140
    have s10 : bitI (S 18 15 k) (nI o) = true → G p9 l e9 { frames := 8, cells := 5, slots := 30, locals := 126 } s9 m9 a9 b9 me9 c9 D ad A9 9 (MQ b9 (va_Qi (TPP ad ca kk) (fun E' t => WW D ad CNT A9 E' t.heap) A9) a9 s9 5 30 A9) 0 0 CNT (SH ad ca (S)) 76 [(0, .ref (ad 0 0)), (1, .int (v)), (2, .ref (ad 22 0)), (3, .ref (ad 22 6)), (5, .int (nI k)), (6, .int (nI o)), (7, .int (nI 1)), (8, .int (nI 0))] [] := by
      intro hb
      have hcn : cntI (S 1 2 k) (nI o) = true := (hEx k (by omega) o (by omega)).trans hb
      refine g_aload_n hB 3 dL_sets_76 rfl rfl ?_
      refine g_iload hB 5 dL_sets_77 rfl ?_
      refine g_dup2 hB rfl rfl dL_sets_79 ?_
      refine g_iald hB 22 6 k (n := 4) (by decide) rfl (by first | assumption | omega) (Nat.le_of_ble_eq_true rfl) dL_sets_80 ?_
      refine g_iload hB 7 dL_sets_81 rfl ?_
      refine g_iload hB 8 dL_sets_83 rfl ?_
      refine n_icmp_eq hB 1 0 95 dL_sets_85 (by decide) (by decide) (by decide) (fun z => absurd z (by decide)) (fun _ => ?_)
      refine g_iconst hB (nI 1) dL_sets_88 rfl ?_
      refine g_iload hB 6 dL_sets_89 rfl ?_
      refine g_ishl hB dL_sets_91 ?_
      refine g_goto hB 96 dL_sets_92 (by decide) ?_
      refine g_ixor hB dL_sets_96 ?_
      refine s_iast hB 22 6 k (n := 4) (by decide) (fun _ => rfl) (by first | assumption | omega) (Nat.le_of_ble_eq_true rfl) dL_sets_97 ?_
      refine g_aload_n hB 3 dL_sets_98 rfl rfl ?_
      refine g_iload hB 6 dL_sets_99 rfl ?_
      refine g_dup2 hB rfl rfl dL_sets_101 ?_
      refine g_iald hB 22 6 o (n := 4) (by decide) rfl (by first | assumption | omega) (Nat.le_of_ble_eq_true rfl) dL_sets_102 ?_
      refine g_top ((S 22 6 o)) (uM_n (by omega)) ?_
      refine g_iload hB 7 dL_sets_103 rfl ?_
      refine g_iload hB 8 dL_sets_105 rfl ?_
      refine n_icmp_eq hB 1 0 117 dL_sets_107 (by decide) (by decide) (by decide) (fun z => absurd z (by decide)) (fun _ => ?_)
      refine g_iconst hB (nI 1) dL_sets_110 rfl ?_
      refine g_iload hB 5 dL_sets_111 rfl ?_
      refine g_ishl hB dL_sets_113 ?_
      refine g_goto hB 118 dL_sets_114 (by decide) ?_
      refine g_ixor hB dL_sets_118 ?_
      refine s_iast hB 22 6 o (n := 4) (by decide) (fun _ => rfl) (by first | assumption | omega) (Nat.le_of_ble_eq_true rfl) dL_sets_119 ?_
      refine g_gh (exA S k o) exA_gh ?_
      refine g_aload_n hB 0 dL_sets_120 rfl rfl ?_
      refine g_iload hB 5 dL_sets_121 rfl ?_
      refine g_iload hB 6 dL_sets_123 rfl ?_
      refine g_iload hB 8 dL_sets_125 rfl ?_
      refine g_callNVI hB (c_X5_exclude hl _ _ _ false) k_L_143 rfl yk_X5_exclude ⟨Nat.le_of_ble_eq_true rfl, Nat.le_of_ble_eq_true rfl⟩ ⟨(by decide), _, _, _, rfl, rfl, rfl⟩ rfl (Nat.le_of_ble_eq_true rfl) ⟨Nat.le_of_ble_eq_true rfl, Nat.le_of_ble_eq_true rfl⟩ dL_sets_127 (fun X hX => nx_of (exC_0 hk ho hko) hX) ?_
      rintro _ _ ⟨-, rfl, rfl⟩
      refine g_top (nI (1)) (by rw [ix_nI (by omega)]; show bI (cntI (S 1 2 k) (nI o)) = nI 1; rw [hcn]; rfl) ?_
      refine g_iload hB 7 dL_sets_130 rfl ?_
      refine n_icmp_ne hB 1 1 139 dL_sets_132 (by decide) (by decide) (by decide) (fun z => absurd z (by decide)) (fun _ => ?_)
      refine g_iconst hB (nI 1) dL_sets_135 rfl ?_
      refine g_goto hB 140 dL_sets_136 (by decide) ?_
      exact g_iret hB hr rfl (Nat.le_of_ble_eq_true rfl) (Nat.le_of_ble_eq_true rfl) (⟨_, rfl, rfl, by rw [ix_nI (by omega), ix_nI (by omega)]; exact TI_ex1 h hL0 hH ht hmo hk ho hko hb⟩) dL_sets_140
    have s11 : bitI (S 18 15 k) (nI o) = true → G p9 l e9 { frames := 8, cells := 5, slots := 30, locals := 126 } s9 m9 a9 b9 me9 c9 D ad A9 9 (MQ b9 (va_Qi (TPP ad ca kk) (fun E' t => WW D ad CNT A9 E' t.heap) A9) a9 s9 5 30 A9) 0 0 CNT (SH ad ca (S)) 76 [(0, .ref (ad 0 0)), (1, .int (v)), (2, .ref (ad 22 0)), (3, .ref (ad 22 6)), (5, .int (nI k)), (6, .int (nI o)), (7, .int (nI 1)), (8, .int (nI 1))] [] := by
      intro hb
      have hcn : cntI (S 1 2 k) (nI o) = true := (hEx k (by omega) o (by omega)).trans hb
      refine g_aload_n hB 3 dL_sets_76 rfl rfl ?_
      refine g_iload hB 5 dL_sets_77 rfl ?_
      refine g_dup2 hB rfl rfl dL_sets_79 ?_
      refine g_iald hB 22 6 k (n := 4) (by decide) rfl (by first | assumption | omega) (Nat.le_of_ble_eq_true rfl) dL_sets_80 ?_
      refine g_iload hB 7 dL_sets_81 rfl ?_
      refine g_iload hB 8 dL_sets_83 rfl ?_
      refine n_icmp_eq hB 1 1 95 dL_sets_85 (by decide) (by decide) (by decide) (fun _ => ?_) (fun z => absurd z (by decide))
      refine g_iconst hB (nI 0) dL_sets_95 rfl ?_
      refine g_ixor hB dL_sets_96 ?_
      refine g_top ((S 22 6 k)) (xor_z _) ?_
      refine s_iast hB 22 6 k (n := 4) (by decide) (fun _ => rfl) (by first | assumption | omega) (Nat.le_of_ble_eq_true rfl) dL_sets_97 ?_
      refine s_eq S uM_self ?_
      refine g_aload_n hB 3 dL_sets_98 rfl rfl ?_
      refine g_iload hB 6 dL_sets_99 rfl ?_
      refine g_dup2 hB rfl rfl dL_sets_101 ?_
      refine g_iald hB 22 6 o (n := 4) (by decide) rfl (by first | assumption | omega) (Nat.le_of_ble_eq_true rfl) dL_sets_102 ?_
      refine g_iload hB 7 dL_sets_103 rfl ?_
      refine g_iload hB 8 dL_sets_105 rfl ?_
      refine n_icmp_eq hB 1 1 117 dL_sets_107 (by decide) (by decide) (by decide) (fun _ => ?_) (fun z => absurd z (by decide))
      refine g_iconst hB (nI 0) dL_sets_117 rfl ?_
      refine g_ixor hB dL_sets_118 ?_
      refine g_top ((S 22 6 o)) (xor_z _) ?_
      refine s_iast hB 22 6 o (n := 4) (by decide) (fun _ => rfl) (by first | assumption | omega) (Nat.le_of_ble_eq_true rfl) dL_sets_119 ?_
      refine s_eq S uM_self ?_
      refine g_gh (uM S 17 0 0 (nI 0)) (fun _ h17 _ _ => funext fun _ => uM_k (fun z => h17 z.1)) ?_
      refine g_aload_n hB 0 dL_sets_120 rfl rfl ?_
      refine g_iload hB 5 dL_sets_121 rfl ?_
      refine g_iload hB 6 dL_sets_123 rfl ?_
      refine g_iload hB 8 dL_sets_125 rfl ?_
      refine g_callNVI hB (c_X5_exclude hl _ _ _ true) k_L_143 rfl yk_X5_exclude ⟨Nat.le_of_ble_eq_true rfl, Nat.le_of_ble_eq_true rfl⟩ ⟨(by decide), _, _, _, rfl, rfl, rfl⟩ rfl (Nat.le_of_ble_eq_true rfl) ⟨Nat.le_of_ble_eq_true rfl, Nat.le_of_ble_eq_true rfl⟩ dL_sets_127 (fun X hX => nx_of (exC_0 hk ho hko) hX) ?_
      rintro _ _ ⟨-, rfl, rfl⟩
      refine g_top (nI (1)) (by rw [ix_nI (by omega)]; show bI (cntI (S 1 2 k) (nI o)) = nI 1; rw [hcn]; rfl) ?_
      refine g_iload hB 7 dL_sets_130 rfl ?_
      refine n_icmp_ne hB 1 1 139 dL_sets_132 (by decide) (by decide) (by decide) (fun z => absurd z (by decide)) (fun _ => ?_)
      refine g_iconst hB (nI 1) dL_sets_135 rfl ?_
      refine g_goto hB 140 dL_sets_136 (by decide) ?_
      exact g_iret hB hr rfl (Nat.le_of_ble_eq_true rfl) (Nat.le_of_ble_eq_true rfl) (⟨_, rfl, rfl, by rw [ix_nI (by omega), ix_nI (by omega)]; exact TI_ex0 h hL0 hH ht hmo hk ho hko hb⟩) dL_sets_140

    refine g_aload_n hB 3 dL_sets_38 rfl rfl ?_
    refine g_iload hB 5 dL_sets_39 rfl ?_
    refine g_iald hB 22 6 k (n := 4) (by decide) rfl (by first | assumption | omega) (Nat.le_of_ble_eq_true rfl) dL_sets_41 ?_
    refine g_iload hB 6 dL_sets_42 rfl ?_
    refine g_ishr hB dL_sets_44 ?_
    refine g_iconst hB (nI 1) dL_sets_45 rfl ?_
    refine g_iand hB dL_sets_46 ?_
    refine g_iconst hB (nI 1) dL_sets_47 rfl ?_
    refine g_icmp_ne hB 55 dL_sets_48 (by decide) (fun c_48 => ?_) (fun c_48 => ?_)
    · have hb : bitI (S 18 15 k) (nI o) = false := by rw [← hE k hk o ho, cnt_bit]; exact decide_eq_false c_48
      refine g_iconst hB (nI 0) dL_sets_55 rfl ?_
      refine g_istore hB 7 dL_sets_56 (by decide) ?_
      refine g_iload_n hB 1 dL_sets_58 rfl rfl ?_
      refine g_bipush hB (nI 6) dL_sets_59 rfl ?_
      refine g_ishr hB dL_sets_61 ?_
      refine g_iconst hB (nI 3) dL_sets_62 rfl ?_
      refine g_callSI hB (c_L_low _ _ _ (by omega) (by omega)) k_L_125 yk_L_low ⟨Nat.le_of_ble_eq_true rfl, Nat.le_of_ble_eq_true rfl⟩ rfl (Nat.le_of_ble_eq_true rfl) ⟨Nat.le_of_ble_eq_true rfl, Nat.le_of_ble_eq_true rfl⟩ dL_sets_63 ?_
      rintro _ _ ⟨y, hy, rfl, rfl⟩
      refine g_if_le hB 73 dL_sets_66 (by decide) (fun c_66 => ?_) (fun c_66 => ?_)
      · refine g_iconst hB (nI 0) dL_sets_73 rfl ?_
        refine g_istore hB 8 dL_sets_74 (by decide) ?_
        exact g_sub _ rfl (s00 hb)
      · refine g_iconst hB (nI 1) dL_sets_69 rfl ?_
        refine g_goto hB 74 dL_sets_70 (by decide) ?_
        refine g_istore hB 8 dL_sets_74 (by decide) ?_
        exact g_sub _ rfl (s01 hb)
    · have hb : bitI (S 18 15 k) (nI o) = true := by rw [← hE k hk o ho, cnt_bit]; exact decide_eq_true c_48
      refine g_iconst hB (nI 1) dL_sets_51 rfl ?_
      refine g_goto hB 56 dL_sets_52 (by decide) ?_
      refine g_istore hB 7 dL_sets_56 (by decide) ?_
      refine g_iload_n hB 1 dL_sets_58 rfl rfl ?_
      refine g_bipush hB (nI 6) dL_sets_59 rfl ?_
      refine g_ishr hB dL_sets_61 ?_
      refine g_iconst hB (nI 3) dL_sets_62 rfl ?_
      refine g_callSI hB (c_L_low _ _ _ (by omega) (by omega)) k_L_125 yk_L_low ⟨Nat.le_of_ble_eq_true rfl, Nat.le_of_ble_eq_true rfl⟩ rfl (Nat.le_of_ble_eq_true rfl) ⟨Nat.le_of_ble_eq_true rfl, Nat.le_of_ble_eq_true rfl⟩ dL_sets_63 ?_
      rintro _ _ ⟨y, hy, rfl, rfl⟩
      refine g_if_le hB 73 dL_sets_66 (by decide) (fun c_66 => ?_) (fun c_66 => ?_)
      · refine g_iconst hB (nI 0) dL_sets_73 rfl ?_
        refine g_istore hB 8 dL_sets_74 (by decide) ?_
        exact g_sub _ rfl (s10 hb)
      · refine g_iconst hB (nI 1) dL_sets_69 rfl ?_
        refine g_goto hB 74 dL_sets_70 (by decide) ?_
        refine g_istore hB 8 dL_sets_74 (by decide) ?_
        exact g_sub _ rfl (s11 hb)
  have duty : ∀ (i d : Nat), i < 4 → d < 256 → G p9 l e9 { frames := 8, cells := 5, slots := 30, locals := 126 } s9 m9 a9 b9 me9 c9 D ad A9 9 (MQ b9 (va_Qi (TPP ad ca kk) (fun E' t => WW D ad CNT A9 E' t.heap) A9) a9 s9 5 30 A9) 0 0 CNT (SH ad ca (uM S 22 0 (6 + i) (nI d))) 194 [(0, .ref (ad 0 0)), (1, .int (v)), (2, .ref (ad 22 0)), (3, .ref (ad 22 6)), (5, .int (nI (6 + i))), (6, .int (S 22 0 (6 + i)))] [] := by
    intro i d hi hd
    refine g_gh (duA S i d) duA_gh ?_
    refine g_aload_n hB 0 dL_sets_194 rfl rfl ?_
    refine g_iload hB 5 dL_sets_195 rfl ?_
    refine g_bipush hB (nI 6) dL_sets_197 rfl ?_
    refine g_isub hB dL_sets_199 ?_
    refine g_top (nI (i)) ((pk_sub (by omega)).trans (congrArg nI (by omega))) ?_
    refine g_aload_n hB 2 dL_sets_200 rfl rfl ?_
    refine g_iload hB 5 dL_sets_201 rfl ?_
    refine g_iald hB 22 0 (6 + i) (n := 12) (by decide) rfl (by first | assumption | omega) (Nat.le_of_ble_eq_true rfl) dL_sets_203 ?_
    refine g_top (nI (d)) (by simp [duA, uM_ap]) ?_
    refine g_callNVI hB (c_X5_setDuty hl _ _ _) k_L_147 rfl yk_X5_setDuty ⟨Nat.le_of_ble_eq_true rfl, Nat.le_of_ble_eq_true rfl⟩ ⟨(by decide), _, _, _, rfl, rfl, rfl⟩ rfl (Nat.le_of_ble_eq_true rfl) ⟨Nat.le_of_ble_eq_true rfl, Nat.le_of_ble_eq_true rfl⟩ dL_sets_204 (fun X hX => nx_of (sdC_0 hi hd) hX) ?_
    rintro _ _ ⟨-, rfl, rfl⟩
    refine g_top ((S 22 0 (6 + i))) (by rw [ix_nI (by omega)]; exact (hDu i hi).trans (hD i hi).symm) ?_
    refine g_iload hB 6 dL_sets_207 rfl ?_
    refine g_icmp_ne hB 216 dL_sets_209 (by decide) (fun c_209 => ?_) (fun c_209 => ?_)
    · exact absurd rfl c_209
    · refine g_iconst hB (nI 1) dL_sets_212 rfl ?_
      refine g_goto hB 217 dL_sets_213 (by decide) ?_
      exact g_iret hB hr rfl (Nat.le_of_ble_eq_true rfl) (Nat.le_of_ble_eq_true rfl) (⟨_, rfl, rfl, by rw [ix_nI (by omega)]; exact TI_du h hL0 hH ht hmo hi hd⟩) dL_sets_217
  have pace : ∀ d : Nat, d ≤ 12 → G p9 l e9 { frames := 8, cells := 5, slots := 30, locals := 126 } s9 m9 a9 b9 me9 c9 D ad A9 9 (MQ b9 (va_Qi (TPP ad ca kk) (fun E' t => WW D ad CNT A9 E' t.heap) A9) a9 s9 5 30 A9) 0 0 CNT (SH ad ca (uM S 22 0 1 (nI d))) 249 [(0, .ref (ad 0 0)), (1, .int (v)), (2, .ref (ad 22 0)), (3, .ref (ad 22 6)), (5, .int (nI pa))] [] := by
    intro d hd
    refine g_gh (spA S d) spA_gh ?_
    refine g_aload_n hB 0 dL_sets_249 rfl rfl ?_
    refine g_aload_n hB 2 dL_sets_250 rfl rfl ?_
    refine g_iconst hB (nI 1) dL_sets_251 rfl ?_
    refine g_iald hB 22 0 1 (n := 12) (by decide) rfl (by first | assumption | omega) (Nat.le_of_ble_eq_true rfl) dL_sets_252 ?_
    refine g_top (nI (d)) (by simp [spA, uM_ap]) ?_
    refine g_callNVI hB (c_X5_setPace hl _ _) k_L_150 rfl yk_X5_setPace ⟨Nat.le_of_ble_eq_true rfl, Nat.le_of_ble_eq_true rfl⟩ ⟨(by decide), _, _, _, rfl, rfl, rfl⟩ rfl (Nat.le_of_ble_eq_true rfl) ⟨Nat.le_of_ble_eq_true rfl, Nat.le_of_ble_eq_true rfl⟩ dL_sets_253 (fun X hX => nx_of (spC_0 hd) hX) ?_
    rintro _ _ ⟨-, rfl, rfl⟩
    refine g_top (nI (pa)) (h.1.2.2.2.2.1.1) ?_
    refine g_iload hB 5 dL_sets_256 rfl ?_
    refine n_icmp_ne hB pa pa 265 dL_sets_258 (by decide) (by omega) (by omega) (fun c_258 => ?_) (fun c_258 => ?_)
    · have d_258 : decide (pa = pa) = false := decide_eq_false c_258
      exact absurd rfl c_258
    · have d_258 : decide (pa = pa) = true := decide_eq_true c_258
      refine g_iconst hB (nI 1) dL_sets_261 rfl ?_
      refine g_goto hB 266 dL_sets_262 (by decide) ?_
      exact g_iret hB hr rfl (Nat.le_of_ble_eq_true rfl) (Nat.le_of_ble_eq_true rfl) (⟨_, rfl, rfl, TI_sp h hL0 hH ht hmo hd⟩) dL_sets_266
  refine g_iload_n hB 1 dL_sets_0 rfl rfl ?_
  refine g_iconst hB (nI 4) dL_sets_1 rfl ?_
  refine g_callSI hB (c_L_low _ _ _ (by omega) (by omega)) k_L_125 yk_L_low ⟨Nat.le_of_ble_eq_true rfl, Nat.le_of_ble_eq_true rfl⟩ rfl (Nat.le_of_ble_eq_true rfl) ⟨Nat.le_of_ble_eq_true rfl, Nat.le_of_ble_eq_true rfl⟩ dL_sets_2 ?_
  rintro _ _ ⟨z, hz, rfl, rfl⟩
  refine g_istore hB 4 dL_sets_5 (by decide) ?_
  refine g_iload hB 4 dL_sets_7 rfl ?_
  refine g_iconst hB (nI 2) dL_sets_9 rfl ?_
  refine n_icmp_ge hB z 2 141 dL_sets_10 (by decide) (by omega) (by omega) (fun c_10 => ?_) (fun c_10 => ?_)
  · refine g_iload hB 4 dL_sets_141 rfl ?_
    refine g_iconst hB (nI 2) dL_sets_143 rfl ?_
    refine n_icmp_ne hB z 2 218 dL_sets_144 (by decide) (by omega) (by omega) (fun c_144 => ?_) (fun c_144 => ?_)
    · have d_144 : decide (z = 2) = false := decide_eq_false c_144
      refine g_aload_n hB 2 dL_sets_218 rfl rfl ?_
      refine g_iconst hB (nI 1) dL_sets_219 rfl ?_
      refine g_iald hB 22 0 1 (n := 12) (by decide) rfl (by first | assumption | omega) (Nat.le_of_ble_eq_true rfl) dL_sets_220 ?_
      refine g_top (nI (pa)) (q1) ?_
      refine g_istore hB 5 dL_sets_221 (by decide) ?_
      refine g_aload_n hB 2 dL_sets_223 rfl rfl ?_
      refine g_iconst hB (nI 1) dL_sets_224 rfl ?_
      refine g_iload_n hB 1 dL_sets_225 rfl rfl ?_
      refine g_iconst hB (nI 2) dL_sets_226 rfl ?_
      refine g_ishr hB dL_sets_227 ?_
      refine g_iload_n hB 1 dL_sets_228 rfl rfl ?_
      refine g_bipush hB (nI 6) dL_sets_229 rfl ?_
      refine g_ishr hB dL_sets_231 ?_
      refine g_iconst hB (nI 2) dL_sets_232 rfl ?_
      refine g_callSI hB (c_L_low _ _ _ (by omega) (by omega)) k_L_125 yk_L_low ⟨Nat.le_of_ble_eq_true rfl, Nat.le_of_ble_eq_true rfl⟩ rfl (Nat.le_of_ble_eq_true rfl) ⟨Nat.le_of_ble_eq_true rfl, Nat.le_of_ble_eq_true rfl⟩ dL_sets_233 ?_
      rintro _ _ ⟨y, hy, rfl, rfl⟩
      refine g_if_ne hB 244 dL_sets_236 (by decide) (fun c_236 => ?_) (fun c_236 => ?_)
      · refine g_iconst hB (nI 3) dL_sets_244 rfl ?_
        refine g_callSI hB (c_L_low _ _ _ (by omega) (by omega)) k_L_125 yk_L_low ⟨Nat.le_of_ble_eq_true rfl, Nat.le_of_ble_eq_true rfl⟩ rfl (Nat.le_of_ble_eq_true rfl) ⟨Nat.le_of_ble_eq_true rfl, Nat.le_of_ble_eq_true rfl⟩ dL_sets_245 ?_
        rintro _ _ ⟨d, hd, rfl, rfl⟩
        refine s_iast hB 22 0 1 (n := 12) (by decide) (fun _ => rfl) (by first | assumption | omega) (Nat.le_of_ble_eq_true rfl) dL_sets_248 ?_
        exact g_sub _ rfl (pace d (by omega))
      · refine g_bipush hB (nI 13) dL_sets_239 rfl ?_
        refine g_goto hB 245 dL_sets_241 (by decide) ?_
        refine g_callSI hB (c_L_low _ _ _ (by omega) (by omega)) k_L_125 yk_L_low ⟨Nat.le_of_ble_eq_true rfl, Nat.le_of_ble_eq_true rfl⟩ rfl (Nat.le_of_ble_eq_true rfl) ⟨Nat.le_of_ble_eq_true rfl, Nat.le_of_ble_eq_true rfl⟩ dL_sets_245 ?_
        rintro _ _ ⟨d, hd, rfl, rfl⟩
        refine s_iast hB 22 0 1 (n := 12) (by decide) (fun _ => rfl) (by first | assumption | omega) (Nat.le_of_ble_eq_true rfl) dL_sets_248 ?_
        exact g_sub _ rfl (pace d (by omega))
    · have d_144 : decide (z = 2) = true := decide_eq_true c_144
      refine g_bipush hB (nI 6) dL_sets_147 rfl ?_
      refine g_iload_n hB 1 dL_sets_149 rfl rfl ?_
      refine g_iconst hB (nI 2) dL_sets_150 rfl ?_
      refine g_ishr hB dL_sets_151 ?_
      refine g_iconst hB (nI 4) dL_sets_152 rfl ?_
      refine g_callSI hB (c_L_low _ _ _ (by omega) (by omega)) k_L_125 yk_L_low ⟨Nat.le_of_ble_eq_true rfl, Nat.le_of_ble_eq_true rfl⟩ rfl (Nat.le_of_ble_eq_true rfl) ⟨Nat.le_of_ble_eq_true rfl, Nat.le_of_ble_eq_true rfl⟩ dL_sets_153 ?_
      rintro _ _ ⟨i, hi, rfl, rfl⟩
      refine g_iadd hB dL_sets_156 ?_
      refine g_top (nI (6 + i)) (nI_add _ _) ?_
      refine g_istore hB 5 dL_sets_157 (by decide) ?_
      refine g_aload_n hB 2 dL_sets_159 rfl rfl ?_
      refine g_iload hB 5 dL_sets_160 rfl ?_
      refine g_iald hB 22 0 (6 + i) (n := 12) (by decide) rfl (by first | assumption | omega) (Nat.le_of_ble_eq_true rfl) dL_sets_162 ?_
      refine g_top ((S 22 0 (6 + i))) (rfl) ?_
      refine g_istore hB 6 dL_sets_163 (by decide) ?_
      refine g_aload_n hB 2 dL_sets_165 rfl rfl ?_
      refine g_iload hB 5 dL_sets_166 rfl ?_
      refine g_iload_n hB 1 dL_sets_168 rfl rfl ?_
      refine g_iconst hB (nI 4) dL_sets_169 rfl ?_
      refine g_ishr hB dL_sets_170 ?_
      refine g_iconst hB (nI 2) dL_sets_171 rfl ?_
      refine g_callSI hB (c_L_low _ _ _ (by omega) (by omega)) k_L_125 yk_L_low ⟨Nat.le_of_ble_eq_true rfl, Nat.le_of_ble_eq_true rfl⟩ rfl (Nat.le_of_ble_eq_true rfl) ⟨Nat.le_of_ble_eq_true rfl, Nat.le_of_ble_eq_true rfl⟩ dL_sets_172 ?_
      rintro _ _ ⟨y, hy, rfl, rfl⟩
      refine g_if_ne hB 184 dL_sets_175 (by decide) (fun c_175 => ?_) (fun c_175 => ?_)
      · refine g_iload_n hB 1 dL_sets_184 rfl rfl ?_
        refine g_iconst hB (nI 5) dL_sets_185 rfl ?_
        refine g_ishr hB dL_sets_186 ?_
        refine g_sipush hB (nI 256) dL_sets_187 rfl ?_
        refine g_callSI hB (c_L_low _ _ _ (by omega) (by omega)) k_L_125 yk_L_low ⟨Nat.le_of_ble_eq_true rfl, Nat.le_of_ble_eq_true rfl⟩ rfl (Nat.le_of_ble_eq_true rfl) ⟨Nat.le_of_ble_eq_true rfl, Nat.le_of_ble_eq_true rfl⟩ dL_sets_190 ?_
        rintro _ _ ⟨d, hd, rfl, rfl⟩
        refine s_iast hB 22 0 (6 + i) (n := 12) (by decide) (fun _ => rfl) (by first | assumption | omega) (Nat.le_of_ble_eq_true rfl) dL_sets_193 ?_
        exact g_sub _ rfl (duty i d hi (by omega))
      · refine g_sipush hB (nI 255) dL_sets_178 rfl ?_
        refine g_goto hB 193 dL_sets_181 (by decide) ?_
        refine s_iast hB 22 0 (6 + i) (n := 12) (by decide) (fun _ => rfl) (by first | assumption | omega) (Nat.le_of_ble_eq_true rfl) dL_sets_193 ?_
        exact g_sub _ rfl (duty i 255 hi (by omega))
  · refine g_iload_n hB 1 dL_sets_13 rfl rfl ?_
    refine g_iconst hB (nI 2) dL_sets_14 rfl ?_
    refine g_ishr hB dL_sets_15 ?_
    refine g_iconst hB (nI 4) dL_sets_16 rfl ?_
    refine g_callSI hB (c_L_low _ _ _ (by omega) (by omega)) k_L_125 yk_L_low ⟨Nat.le_of_ble_eq_true rfl, Nat.le_of_ble_eq_true rfl⟩ rfl (Nat.le_of_ble_eq_true rfl) ⟨Nat.le_of_ble_eq_true rfl, Nat.le_of_ble_eq_true rfl⟩ dL_sets_17 ?_
    rintro _ _ ⟨k, hk, rfl, rfl⟩
    refine g_istore hB 5 dL_sets_20 (by decide) ?_
    refine g_iload hB 5 dL_sets_22 rfl ?_
    refine g_iconst hB (nI 1) dL_sets_24 rfl ?_
    refine g_iadd hB dL_sets_25 ?_
    refine g_top (nI (k + 1)) (nI_add _ _) ?_
    refine g_iload_n hB 1 dL_sets_26 rfl rfl ?_
    refine g_iconst hB (nI 4) dL_sets_27 rfl ?_
    refine g_ishr hB dL_sets_28 ?_
    refine g_iconst hB (nI 3) dL_sets_29 rfl ?_
    refine g_callSI hB (c_L_low _ _ _ (by omega) (by omega)) k_L_125 yk_L_low ⟨Nat.le_of_ble_eq_true rfl, Nat.le_of_ble_eq_true rfl⟩ rfl (Nat.le_of_ble_eq_true rfl) ⟨Nat.le_of_ble_eq_true rfl, Nat.le_of_ble_eq_true rfl⟩ dL_sets_30 ?_
    rintro _ _ ⟨y, hy, rfl, rfl⟩
    refine g_iadd hB dL_sets_33 ?_
    refine g_top (nI (k + 1 + y)) (nI_add _ _) ?_
    refine g_iconst hB (nI 4) dL_sets_34 rfl ?_
    refine g_irem hB (by decide) dL_sets_35 ?_
    refine g_top (nI ((k + 1 + y) % 4)) (pk_rem (by omega) (by decide) (by omega)) ?_
    refine g_istore hB 6 dL_sets_36 (by decide) ?_
    exact g_sub _ rfl (excl k ((k + 1 + y) % 4) hk (by omega) (by omega))
end L11
