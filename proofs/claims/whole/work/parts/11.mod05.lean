set_option maxRecDepth 100000 in
set_option maxHeartbeats 4000000 in
theorem t_X6_errorOffset_0 {Γ : GG} {P : MP} {I : MM} {R : Int → MM → Prop} (hM : LM Γ P)
    (h : (∀ I1 : MM, I1 = up2 I 1 0 0 → R (I1 1 7) I1)) :
    XM Γ m_X6_errorOffset 0 0 0 [(0, vR 1)] [] P I (ri P R) := by
  refine x_aload_n (pc := 0) 0 dX6_errorOffset_0 rfl ?_
  refine x_iconst (pc := 1) dX6_errorOffset_1 ?_
  refine x_putI (pc := 2) dX6_errorOffset_2 FC6 0 (by decide) rfl rfl fl_X6_51 (LM_ob hM) ?_
  refine x_nmI (fun I1 eI1 => ?_)
  have h := h I1 eI1
  refine x_aload_n (pc := 5) 0 dX6_errorOffset_5 rfl ?_
  refine x_getI (pc := 6) dX6_errorOffset_6 FC6 7 (by decide) rfl fl_X6_13 (LM_ob hM) ?_
  exact x_iret (pc := 9) dX6_errorOffset_9 rfl (Nat.le_refl _) (Nat.le_refl _) ⟨_, rfl, rfl, h⟩
set_option maxRecDepth 100000 in
set_option maxHeartbeats 4000000 in
theorem t_X6_layFirst_0 {Γ : GG} {P : MP} {I : MM} {R : MM → Prop} (hM : LM Γ P)
    (h : XM Γ m_X6_layFirst 0 0 2 [(0, vR 1), (1, vI 0)] [] P I (rv P R)) :
    XM Γ m_X6_layFirst 0 0 0 [(0, vR 1)] [] P I (rv P R) := by
  refine x_iconst (pc := 0) dX6_layFirst_0 ?_
  refine x_istore_n (pc := 1) (al' := [(0, vR 1), (1, vI 0)]) dX6_layFirst_1 rfl rfl (Nat.le_of_ble_eq_true rfl) ?_
  exact x_sub [0, 1] rfl h
set_option maxRecDepth 100000 in
set_option maxHeartbeats 4000000 in
theorem t_X6_layFirst_2 {Γ : GG} {P : MP} {I : MM} {R : MM → Prop} {x1 : Int} (hM : LM Γ P)
    (h : (inR x1) ∧ (inR (I 3 0)) ∧ (((I 3 0) ≤ x1 → XM Γ m_X6_layFirst 0 0 32 [(0, vR 1), (1, vI 0)] [] P I (rv P R)) ∧ (¬ (I 3 0) ≤ x1 → (Cl Γ m_X6_machine [vI x1] P I (ri P (fun (z5 : Int) (I6 : MM) => (0 ≤ (z5 + 2)) ∧ ((z5 + 2) < 1655) ∧ (∀ I9 : MM, I9 = up2 I6 3 ((z5 + 2)).toNat 0 → XM Γ m_X6_layFirst 0 0 2 [(0, vR 1), (1, vI (x1 + 1))] [] P I9 (rv P R)))))))) :
    XM Γ m_X6_layFirst 0 0 2 [(0, vR 1), (1, vI x1)] [] P I (rv P R) := by
  refine x_iload_n (pc := 2) 1 dX6_layFirst_2 rfl ?_
  refine x_aload_n (pc := 3) 0 dX6_layFirst_3 rfl ?_
  refine x_getP (pc := 4) dX6_layFirst_4 FC6 8 (by decide) rfl fl_X6_17 (LM_ob hM) (LM_p8 hM) ?_
  refine x_iconst (pc := 7) dX6_layFirst_7 ?_
  refine x_iald (pc := 8) dX6_layFirst_8 (LM_a8 hM) (by decide) (by decide) (by decide) ?_
  obtain ⟨hr1, h⟩ := h
  obtain ⟨hr2, h⟩ := h
  obtain ⟨hA3, hB4⟩ := h
  refine x_icmp_ge (pc := 9) 30 dX6_layFirst_9 (by decide) hr1 hr2 (fun hc => ?_) (fun hc => ?_)
  · have h := hA3 hc
    refine x_iconst (pc := 30) dX6_layFirst_30 ?_
    refine x_istore_n (pc := 31) (al' := [(0, vR 1), (1, vI 0)]) dX6_layFirst_31 rfl rfl (Nat.le_of_ble_eq_true rfl) ?_
    exact x_sub [0, 1] rfl h
  · have h := hB4 hc
    refine x_aload_n (pc := 12) 0 dX6_layFirst_12 rfl ?_
    refine x_getP (pc := 13) dX6_layFirst_13 FC6 8 (by decide) rfl fl_X6_17 (LM_ob hM) (LM_p8 hM) ?_
    refine x_iload_n (pc := 16) 1 dX6_layFirst_16 rfl ?_
    refine x_Si (μ := m_X6_layFirst) (pc := 17) dX6_layFirst_17 h k_X6_machine ml_X6_158 ⟨Nat.le_of_ble_eq_true rfl, Nat.le_of_ble_eq_true rfl⟩ ⟨rfl, rfl⟩ ⟨Nat.zero_le _, Nat.zero_le _⟩ rfl (Nat.le_of_ble_eq_true rfl) _ rfl (fun z5 I6 h => ?_)
    refine x_iconst (pc := 20) dX6_layFirst_20 ?_
    refine x_iadd (pc := 21) dX6_layFirst_21 ?_
    refine x_iconst (pc := 22) dX6_layFirst_22 ?_
    obtain ⟨hv7, h⟩ := h
    obtain ⟨hv8, h⟩ := h
    refine x_iast (pc := 23) dX6_layFirst_23 (LM_a8 hM) hv7 hv8 (by decide) ?_
    refine x_nmI (fun I9 eI9 => ?_)
    have h := h I9 eI9
    refine x_iinc (pc := 24) (al' := [(0, vR 1), (1, vI (x1 + 1))]) 1 dX6_layFirst_24 rfl rfl rfl (Nat.le_of_ble_eq_true rfl) ?_
    refine x_goto (pc := 27) 2 dX6_layFirst_27 (by decide) ?_
    exact x_sub [0, 1] rfl h
set_option maxRecDepth 100000 in
set_option maxHeartbeats 4000000 in
theorem t_X6_layFirst_32 {Γ : GG} {P : MP} {I : MM} {R : MM → Prop} {x1 : Int} (hM : LM Γ P)
    (h : (inR x1) ∧ (inR (I 3 2)) ∧ (((I 3 2) ≤ x1 → R I) ∧ (¬ (I 3 2) ≤ x1 → XM Γ m_X6_layFirst 0 0 44 [(0, vR 1), (1, vI x1), (2, vI 0)] [] P I (rv P R)))) :
    XM Γ m_X6_layFirst 0 0 32 [(0, vR 1), (1, vI x1)] [] P I (rv P R) := by
  refine x_iload_n (pc := 32) 1 dX6_layFirst_32 rfl ?_
  refine x_aload_n (pc := 33) 0 dX6_layFirst_33 rfl ?_
  refine x_getP (pc := 34) dX6_layFirst_34 FC6 8 (by decide) rfl fl_X6_17 (LM_ob hM) (LM_p8 hM) ?_
  refine x_iconst (pc := 37) dX6_layFirst_37 ?_
  refine x_iald (pc := 38) dX6_layFirst_38 (LM_a8 hM) (by decide) (by decide) (by decide) ?_
  obtain ⟨hr1, h⟩ := h
  obtain ⟨hr2, h⟩ := h
  obtain ⟨hA3, hB4⟩ := h
  refine x_icmp_ge (pc := 39) 124 dX6_layFirst_39 (by decide) hr1 hr2 (fun hc => ?_) (fun hc => ?_)
  · have h := hA3 hc
    exact x_vret (pc := 124) dX6_layFirst_124 rfl (Nat.le_refl _) (Nat.le_refl _) ⟨rfl, rfl, h⟩
  · have h := hB4 hc
    refine x_iconst (pc := 42) dX6_layFirst_42 ?_
    refine x_istore_n (pc := 43) (al' := [(0, vR 1), (1, vI x1), (2, vI 0)]) dX6_layFirst_43 rfl rfl (Nat.le_of_ble_eq_true rfl) ?_
    exact x_sub [0, 1, 2] rfl h
set_option maxRecDepth 100000 in
set_option maxHeartbeats 4000000 in
theorem t_X6_layFirst_44 {Γ : GG} {P : MP} {I : MM} {R : MM → Prop} {x1 x2 : Int} (hM : LM Γ P)
    (h : (Cl Γ m_X6_job [vI x1] P I (ri P (fun (z1 : Int) (I2 : MM) => (0 ≤ (z1 + 3)) ∧ ((z1 + 3) < 1655) ∧ (inR x2) ∧ (inR (I2 3 ((z1 + 3)).toNat)) ∧ (((I2 3 ((z1 + 3)).toNat) ≤ x2 → XM Γ m_X6_layFirst 0 0 32 [(0, vR 1), (1, vI (x1 + 1))] [] P I2 (rv P R)) ∧ (¬ (I2 3 ((z1 + 3)).toNat) ≤ x2 → (Cl Γ m_X6_operationAt [vI ((6 * x1) + x2)] P I2 (ri P (fun (z9 : Int) (I10 : MM) => (0 ≤ z9) ∧ (z9 < 1655) ∧ (Cl Γ m_X6_machine [vI (I10 3 (z9).toNat)] P I10 (ri P (fun (z13 : Int) (I14 : MM) => (0 ≤ (z13 + 2)) ∧ ((z13 + 2) < 1655) ∧ (0 ≤ ((z13 + 3) + (I14 3 ((z13 + 2)).toNat))) ∧ (((z13 + 3) + (I14 3 ((z13 + 2)).toNat)) < 1655) ∧ (∀ I19 : MM, I19 = up2 I14 3 (((z13 + 3) + (I14 3 ((z13 + 2)).toNat))).toNat ((6 * x1) + x2) → (∀ I20 : MM, I20 = up2 I19 3 ((z13 + 2)).toNat ((I19 3 ((z13 + 2)).toNat) + 1) → XM Γ m_X6_layFirst 0 0 44 [(0, vR 1), (1, vI x1), (2, vI (x2 + 1))] [] P I20 (rv P R))))))))))))))) :
    XM Γ m_X6_layFirst 0 0 44 [(0, vR 1), (1, vI x1), (2, vI x2)] [] P I (rv P R) := by
  refine x_iload_n (pc := 44) 2 dX6_layFirst_44 rfl ?_
  refine x_aload_n (pc := 45) 0 dX6_layFirst_45 rfl ?_
  refine x_getP (pc := 46) dX6_layFirst_46 FC6 8 (by decide) rfl fl_X6_17 (LM_ob hM) (LM_p8 hM) ?_
  refine x_iload_n (pc := 49) 1 dX6_layFirst_49 rfl ?_
  refine x_Si (μ := m_X6_layFirst) (pc := 50) dX6_layFirst_50 h k_X6_job ml_X6_147 ⟨Nat.le_of_ble_eq_true rfl, Nat.le_of_ble_eq_true rfl⟩ ⟨rfl, rfl⟩ ⟨Nat.zero_le _, Nat.zero_le _⟩ rfl (Nat.le_of_ble_eq_true rfl) _ rfl (fun z1 I2 h => ?_)
  refine x_iconst (pc := 53) dX6_layFirst_53 ?_
  refine x_iadd (pc := 54) dX6_layFirst_54 ?_
  obtain ⟨hv3, h⟩ := h
  obtain ⟨hv4, h⟩ := h
  refine x_iald (pc := 55) dX6_layFirst_55 (LM_a8 hM) hv3 hv4 (by decide) ?_
  obtain ⟨hr5, h⟩ := h
  obtain ⟨hr6, h⟩ := h
  obtain ⟨hA7, hB8⟩ := h
  refine x_icmp_ge (pc := 56) 118 dX6_layFirst_56 (by decide) hr5 hr6 (fun hc => ?_) (fun hc => ?_)
  · have h := hA7 hc
    refine x_iinc (pc := 118) (al' := [(0, vR 1), (1, vI (x1 + 1)), (2, vI x2)]) 1 dX6_layFirst_118 rfl rfl rfl (Nat.le_of_ble_eq_true rfl) ?_
    refine x_goto (pc := 121) 32 dX6_layFirst_121 (by decide) ?_
    exact x_sub [0, 1] rfl h
  · have h := hB8 hc
    refine x_aload_n (pc := 59) 0 dX6_layFirst_59 rfl ?_
    refine x_getP (pc := 60) dX6_layFirst_60 FC6 8 (by decide) rfl fl_X6_17 (LM_ob hM) (LM_p8 hM) ?_
    refine x_bipush (pc := 63) dX6_layFirst_63 rfl ?_
    refine x_iload_n (pc := 65) 1 dX6_layFirst_65 rfl ?_
    refine x_imul (pc := 66) dX6_layFirst_66 ?_
    refine x_iload_n (pc := 67) 2 dX6_layFirst_67 rfl ?_
    refine x_iadd (pc := 68) dX6_layFirst_68 ?_
    refine x_Si (μ := m_X6_layFirst) (pc := 69) dX6_layFirst_69 h k_X6_operationAt ml_X6_155 ⟨Nat.le_of_ble_eq_true rfl, Nat.le_of_ble_eq_true rfl⟩ ⟨rfl, rfl⟩ ⟨Nat.zero_le _, Nat.zero_le _⟩ rfl (Nat.le_of_ble_eq_true rfl) _ rfl (fun z9 I10 h => ?_)
    obtain ⟨hv11, h⟩ := h
    obtain ⟨hv12, h⟩ := h
    refine x_iald (pc := 72) dX6_layFirst_72 (LM_a8 hM) hv11 hv12 (by decide) ?_
    refine x_Si (μ := m_X6_layFirst) (pc := 73) dX6_layFirst_73 h k_X6_machine ml_X6_158 ⟨Nat.le_of_ble_eq_true rfl, Nat.le_of_ble_eq_true rfl⟩ ⟨rfl, rfl⟩ ⟨Nat.zero_le _, Nat.zero_le _⟩ rfl (Nat.le_of_ble_eq_true rfl) _ rfl (fun z13 I14 h => ?_)
    refine x_istore_n (pc := 76) (al' := [(0, vR 1), (1, vI x1), (2, vI x2), (3, vI z13)]) dX6_layFirst_76 rfl rfl (Nat.le_of_ble_eq_true rfl) ?_
    refine x_aload_n (pc := 77) 0 dX6_layFirst_77 rfl ?_
    refine x_getP (pc := 78) dX6_layFirst_78 FC6 8 (by decide) rfl fl_X6_17 (LM_ob hM) (LM_p8 hM) ?_
    refine x_iload_n (pc := 81) 3 dX6_layFirst_81 rfl ?_
    refine x_iconst (pc := 82) dX6_layFirst_82 ?_
    refine x_iadd (pc := 83) dX6_layFirst_83 ?_
    refine x_aload_n (pc := 84) 0 dX6_layFirst_84 rfl ?_
    refine x_getP (pc := 85) dX6_layFirst_85 FC6 8 (by decide) rfl fl_X6_17 (LM_ob hM) (LM_p8 hM) ?_
    refine x_iload_n (pc := 88) 3 dX6_layFirst_88 rfl ?_
    refine x_iconst (pc := 89) dX6_layFirst_89 ?_
    refine x_iadd (pc := 90) dX6_layFirst_90 ?_
    obtain ⟨hv15, h⟩ := h
    obtain ⟨hv16, h⟩ := h
    refine x_iald (pc := 91) dX6_layFirst_91 (LM_a8 hM) hv15 hv16 (by decide) ?_
    refine x_iadd (pc := 92) dX6_layFirst_92 ?_
    refine x_bipush (pc := 93) dX6_layFirst_93 rfl ?_
    refine x_iload_n (pc := 95) 1 dX6_layFirst_95 rfl ?_
    refine x_imul (pc := 96) dX6_layFirst_96 ?_
    refine x_iload_n (pc := 97) 2 dX6_layFirst_97 rfl ?_
    refine x_iadd (pc := 98) dX6_layFirst_98 ?_
    obtain ⟨hv17, h⟩ := h
    obtain ⟨hv18, h⟩ := h
    refine x_iast (pc := 99) dX6_layFirst_99 (LM_a8 hM) hv17 hv18 (by decide) ?_
    refine x_nmI (fun I19 eI19 => ?_)
    have h := h I19 eI19
    refine x_aload_n (pc := 100) 0 dX6_layFirst_100 rfl ?_
    refine x_getP (pc := 101) dX6_layFirst_101 FC6 8 (by decide) rfl fl_X6_17 (LM_ob hM) (LM_p8 hM) ?_
    refine x_iload_n (pc := 104) 3 dX6_layFirst_104 rfl ?_
    refine x_iconst (pc := 105) dX6_layFirst_105 ?_
    refine x_iadd (pc := 106) dX6_layFirst_106 ?_
    refine x_dup2 (pc := 107) dX6_layFirst_107 rfl rfl ?_
    refine x_iald (pc := 108) dX6_layFirst_108 (LM_a8 hM) hv15 hv16 (by decide) ?_
    refine x_iconst (pc := 109) dX6_layFirst_109 ?_
    refine x_iadd (pc := 110) dX6_layFirst_110 ?_
    refine x_iast (pc := 111) dX6_layFirst_111 (LM_a8 hM) hv15 hv16 (by decide) ?_
    refine x_nmI (fun I20 eI20 => ?_)
    have h := h I20 eI20
    refine x_iinc (pc := 112) (al' := [(0, vR 1), (1, vI x1), (2, vI (x2 + 1)), (3, vI z13)]) 2 dX6_layFirst_112 rfl rfl rfl (Nat.le_of_ble_eq_true rfl) ?_
    refine x_goto (pc := 115) 44 dX6_layFirst_115 (by decide) ?_
    exact x_sub [0, 1, 2] rfl h
set_option maxRecDepth 100000 in
set_option maxHeartbeats 4000000 in
theorem t_X6_isThere_0 {Γ : GG} {P : MP} {I : MM} {R : Int → MM → Prop} {x1 : Int} (hM : LM Γ P)
    (h : (inR x1) ∧ (0 ≤ x1) ∧ (inR (x1 / 6)) ∧ (inR (I 3 2)) ∧ (((I 3 2) ≤ (x1 / 6) → R 0 I) ∧ (¬ (I 3 2) ≤ (x1 / 6) → (Cl Γ m_X6_job [vI (x1 / 6)] P I (ri P (fun (z7 : Int) (I8 : MM) => (0 ≤ (z7 + 3)) ∧ ((z7 + 3) < 1655) ∧ (inR (x1 % 6)) ∧ (inR (I8 3 ((z7 + 3)).toNat)) ∧ (((I8 3 ((z7 + 3)).toNat) ≤ (x1 % 6) → R 0 I8) ∧ (¬ (I8 3 ((z7 + 3)).toNat) ≤ (x1 % 6) → R 1 I8)))))))) :
    XM Γ m_X6_isThere 0 0 0 [(0, vR 1), (1, vI x1)] [] P I (ri P R) := by
  refine x_iload_n (pc := 0) 1 dX6_isThere_0 rfl ?_
  refine x_bipush (pc := 1) dX6_isThere_1 rfl ?_
  obtain ⟨hr1, h⟩ := h
  obtain ⟨hv2, h⟩ := h
  refine x_idiv (pc := 3) dX6_isThere_3 hr1 ⟨by decide, by decide⟩ hv2 (by decide) ?_
  refine x_aload_n (pc := 4) 0 dX6_isThere_4 rfl ?_
  refine x_getP (pc := 5) dX6_isThere_5 FC6 8 (by decide) rfl fl_X6_17 (LM_ob hM) (LM_p8 hM) ?_
  refine x_iconst (pc := 8) dX6_isThere_8 ?_
  refine x_iald (pc := 9) dX6_isThere_9 (LM_a8 hM) (by decide) (by decide) (by decide) ?_
  obtain ⟨hr3, h⟩ := h
  obtain ⟨hr4, h⟩ := h
  obtain ⟨hA5, hB6⟩ := h
  refine x_icmp_ge (pc := 10) 38 dX6_isThere_10 (by decide) hr3 hr4 (fun hc => ?_) (fun hc => ?_)
  · have h := hA5 hc
    refine x_iconst (pc := 38) dX6_isThere_38 ?_
    exact x_zret (pc := 39) dX6_isThere_39 rfl (by decide) (Nat.le_refl _) (Nat.le_refl _) ⟨_, rfl, rfl, h⟩
  · have h := hB6 hc
    refine x_iload_n (pc := 13) 1 dX6_isThere_13 rfl ?_
    refine x_bipush (pc := 14) dX6_isThere_14 rfl ?_
    refine x_irem (pc := 16) dX6_isThere_16 hr1 ⟨by decide, by decide⟩ hv2 (by decide) ?_
    refine x_aload_n (pc := 17) 0 dX6_isThere_17 rfl ?_
    refine x_getP (pc := 18) dX6_isThere_18 FC6 8 (by decide) rfl fl_X6_17 (LM_ob hM) (LM_p8 hM) ?_
    refine x_iload_n (pc := 21) 1 dX6_isThere_21 rfl ?_
    refine x_bipush (pc := 22) dX6_isThere_22 rfl ?_
    refine x_idiv (pc := 24) dX6_isThere_24 hr1 ⟨by decide, by decide⟩ hv2 (by decide) ?_
    refine x_Si (μ := m_X6_isThere) (pc := 25) dX6_isThere_25 h k_X6_job ml_X6_147 ⟨Nat.le_of_ble_eq_true rfl, Nat.le_of_ble_eq_true rfl⟩ ⟨rfl, rfl⟩ ⟨Nat.zero_le _, Nat.zero_le _⟩ rfl (Nat.le_of_ble_eq_true rfl) _ rfl (fun z7 I8 h => ?_)
    refine x_iconst (pc := 28) dX6_isThere_28 ?_
    refine x_iadd (pc := 29) dX6_isThere_29 ?_
    obtain ⟨hv9, h⟩ := h
    obtain ⟨hv10, h⟩ := h
    refine x_iald (pc := 30) dX6_isThere_30 (LM_a8 hM) hv9 hv10 (by decide) ?_
    obtain ⟨hr11, h⟩ := h
    obtain ⟨hr12, h⟩ := h
    obtain ⟨hA13, hB14⟩ := h
    refine x_icmp_ge (pc := 31) 38 dX6_isThere_31 (by decide) hr11 hr12 (fun hc => ?_) (fun hc => ?_)
    · have h := hA13 hc
      refine x_iconst (pc := 38) dX6_isThere_38 ?_
      exact x_zret (pc := 39) dX6_isThere_39 rfl (by decide) (Nat.le_refl _) (Nat.le_refl _) ⟨_, rfl, rfl, h⟩
    · have h := hB14 hc
      refine x_iconst (pc := 34) dX6_isThere_34 ?_
      refine x_goto (pc := 35) 39 dX6_isThere_35 (by decide) ?_
      exact x_zret (pc := 39) dX6_isThere_39 rfl (by decide) (Nat.le_refl _) (Nat.le_refl _) ⟨_, rfl, rfl, h⟩
set_option maxRecDepth 100000 in
set_option maxHeartbeats 4000000 in
theorem t_X6_isLast_0 {Γ : GG} {P : MP} {I : MM} {R : Int → MM → Prop} {x1 : Int} (hM : LM Γ P)
    (h : (inR x1) ∧ (0 ≤ x1) ∧ (Cl Γ m_X6_job [vI (x1 / 6)] P I (ri P (fun (z3 : Int) (I4 : MM) => (0 ≤ (z3 + 3)) ∧ ((z3 + 3) < 1655) ∧ (inR (x1 % 6)) ∧ (inR ((I4 3 ((z3 + 3)).toNat) - 1)) ∧ (((x1 % 6) ≠ ((I4 3 ((z3 + 3)).toNat) - 1) → R 0 I4) ∧ ((x1 % 6) = ((I4 3 ((z3 + 3)).toNat) - 1) → R 1 I4)))))) :
    XM Γ m_X6_isLast 0 0 0 [(0, vR 1), (1, vI x1)] [] P I (ri P R) := by
  refine x_iload_n (pc := 0) 1 dX6_isLast_0 rfl ?_
  refine x_bipush (pc := 1) dX6_isLast_1 rfl ?_
  obtain ⟨hr1, h⟩ := h
  obtain ⟨hv2, h⟩ := h
  refine x_irem (pc := 3) dX6_isLast_3 hr1 ⟨by decide, by decide⟩ hv2 (by decide) ?_
  refine x_aload_n (pc := 4) 0 dX6_isLast_4 rfl ?_
  refine x_getP (pc := 5) dX6_isLast_5 FC6 8 (by decide) rfl fl_X6_17 (LM_ob hM) (LM_p8 hM) ?_
  refine x_iload_n (pc := 8) 1 dX6_isLast_8 rfl ?_
  refine x_bipush (pc := 9) dX6_isLast_9 rfl ?_
  refine x_idiv (pc := 11) dX6_isLast_11 hr1 ⟨by decide, by decide⟩ hv2 (by decide) ?_
  refine x_Si (μ := m_X6_isLast) (pc := 12) dX6_isLast_12 h k_X6_job ml_X6_147 ⟨Nat.le_of_ble_eq_true rfl, Nat.le_of_ble_eq_true rfl⟩ ⟨rfl, rfl⟩ ⟨Nat.zero_le _, Nat.zero_le _⟩ rfl (Nat.le_of_ble_eq_true rfl) _ rfl (fun z3 I4 h => ?_)
  refine x_iconst (pc := 15) dX6_isLast_15 ?_
  refine x_iadd (pc := 16) dX6_isLast_16 ?_
  obtain ⟨hv5, h⟩ := h
  obtain ⟨hv6, h⟩ := h
  refine x_iald (pc := 17) dX6_isLast_17 (LM_a8 hM) hv5 hv6 (by decide) ?_
  refine x_iconst (pc := 18) dX6_isLast_18 ?_
  refine x_isub (pc := 19) dX6_isLast_19 ?_
  obtain ⟨hr7, h⟩ := h
  obtain ⟨hr8, h⟩ := h
  obtain ⟨hA9, hB10⟩ := h
  refine x_icmp_ne (pc := 20) 27 dX6_isLast_20 (by decide) hr7 hr8 (fun hc => ?_) (fun hc => ?_)
  · have h := hA9 hc
    refine x_iconst (pc := 27) dX6_isLast_27 ?_
    exact x_zret (pc := 28) dX6_isLast_28 rfl (by decide) (Nat.le_refl _) (Nat.le_refl _) ⟨_, rfl, rfl, h⟩
  · have h := hB10 hc
    refine x_iconst (pc := 23) dX6_isLast_23 ?_
    refine x_goto (pc := 24) 28 dX6_isLast_24 (by decide) ?_
    exact x_zret (pc := 28) dX6_isLast_28 rfl (by decide) (Nat.le_refl _) (Nat.le_refl _) ⟨_, rfl, rfl, h⟩
set_option maxRecDepth 100000 in
set_option maxHeartbeats 4000000 in
theorem t_X6_machineOf_0 {Γ : GG} {P : MP} {I : MM} {R : Int → MM → Prop} {x1 : Int} (hM : LM Γ P)
    (h : (Cl Γ m_X6_operationAt [vI x1] P I (ri P (fun (z1 : Int) (I2 : MM) => (0 ≤ z1) ∧ (z1 < 1655) ∧ R (I2 3 (z1).toNat) I2)))) :
    XM Γ m_X6_machineOf 0 0 0 [(0, vR 1), (1, vI x1)] [] P I (ri P R) := by
  refine x_aload_n (pc := 0) 0 dX6_machineOf_0 rfl ?_
  refine x_getP (pc := 1) dX6_machineOf_1 FC6 8 (by decide) rfl fl_X6_17 (LM_ob hM) (LM_p8 hM) ?_
  refine x_iload_n (pc := 4) 1 dX6_machineOf_4 rfl ?_
  refine x_Si (μ := m_X6_machineOf) (pc := 5) dX6_machineOf_5 h k_X6_operationAt ml_X6_155 ⟨Nat.le_of_ble_eq_true rfl, Nat.le_of_ble_eq_true rfl⟩ ⟨rfl, rfl⟩ ⟨Nat.zero_le _, Nat.zero_le _⟩ rfl (Nat.le_of_ble_eq_true rfl) _ rfl (fun z1 I2 h => ?_)
  obtain ⟨hv3, h⟩ := h
  obtain ⟨hv4, h⟩ := h
  refine x_iald (pc := 8) dX6_machineOf_8 (LM_a8 hM) hv3 hv4 (by decide) ?_
  exact x_iret (pc := 9) dX6_machineOf_9 rfl (Nat.le_refl _) (Nat.le_refl _) ⟨_, rfl, rfl, h⟩
set_option maxRecDepth 100000 in
set_option maxHeartbeats 4000000 in
theorem t_X6_durationOf_0 {Γ : GG} {P : MP} {I : MM} {R : Int → MM → Prop} {x1 : Int} (hM : LM Γ P)
    (h : (Cl Γ m_X6_operationAt [vI x1] P I (ri P (fun (z1 : Int) (I2 : MM) => (0 ≤ (z1 + 1)) ∧ ((z1 + 1) < 1655) ∧ R (I2 3 ((z1 + 1)).toNat) I2)))) :
    XM Γ m_X6_durationOf 0 0 0 [(0, vR 1), (1, vI x1)] [] P I (ri P R) := by
  refine x_aload_n (pc := 0) 0 dX6_durationOf_0 rfl ?_
  refine x_getP (pc := 1) dX6_durationOf_1 FC6 8 (by decide) rfl fl_X6_17 (LM_ob hM) (LM_p8 hM) ?_
  refine x_iload_n (pc := 4) 1 dX6_durationOf_4 rfl ?_
  refine x_Si (μ := m_X6_durationOf) (pc := 5) dX6_durationOf_5 h k_X6_operationAt ml_X6_155 ⟨Nat.le_of_ble_eq_true rfl, Nat.le_of_ble_eq_true rfl⟩ ⟨rfl, rfl⟩ ⟨Nat.zero_le _, Nat.zero_le _⟩ rfl (Nat.le_of_ble_eq_true rfl) _ rfl (fun z1 I2 h => ?_)
  refine x_iconst (pc := 8) dX6_durationOf_8 ?_
  refine x_iadd (pc := 9) dX6_durationOf_9 ?_
  obtain ⟨hv3, h⟩ := h
  obtain ⟨hv4, h⟩ := h
  refine x_iald (pc := 10) dX6_durationOf_10 (LM_a8 hM) hv3 hv4 (by decide) ?_
  exact x_iret (pc := 11) dX6_durationOf_11 rfl (Nat.le_refl _) (Nat.le_refl _) ⟨_, rfl, rfl, h⟩
set_option maxRecDepth 100000 in
set_option maxHeartbeats 4000000 in
theorem t_X6_placeOf_0 {Γ : GG} {P : MP} {I : MM} {R : Int → MM → Prop} {x1 : Int} (hM : LM Γ P)
    (h : (Cl Γ m_X6_machineOf [vR 1, vI x1] P I (ri P (fun (z1 : Int) (I2 : MM) => (Cl Γ m_X6_machine [vI z1] P I2 (ri P (fun (z3 : Int) (I4 : MM) => (∀ u5 : Int, u5 = (z3 + 3) → XM Γ m_X6_placeOf 0 0 13 [(0, vR 1), (1, vI x1), (2, vI u5), (3, vI 0)] [] P I4 (ri P R))))))))) :
    XM Γ m_X6_placeOf 0 0 0 [(0, vR 1), (1, vI x1)] [] P I (ri P R) := by
  refine x_aload_n (pc := 0) 0 dX6_placeOf_0 rfl ?_
  refine x_iload_n (pc := 1) 1 dX6_placeOf_1 rfl ?_
  refine x_Vi (μ := m_X6_placeOf) (pc := 2) dX6_placeOf_2 h k_X6_machineOf ml_X6_193 ⟨Nat.le_of_ble_eq_true rfl, Nat.le_of_ble_eq_true rfl⟩ ⟨rfl, rfl⟩ ⟨Nat.zero_le _, Nat.zero_le _⟩ rfl (LM_ob hM) rfl (Nat.le_of_ble_eq_true rfl) _ rfl (fun z1 I2 h => ?_)
  refine x_Si (μ := m_X6_placeOf) (pc := 5) dX6_placeOf_5 h k_X6_machine ml_X6_158 ⟨Nat.le_of_ble_eq_true rfl, Nat.le_of_ble_eq_true rfl⟩ ⟨rfl, rfl⟩ ⟨Nat.zero_le _, Nat.zero_le _⟩ rfl (Nat.le_of_ble_eq_true rfl) _ rfl (fun z3 I4 h => ?_)
  refine x_iconst (pc := 8) dX6_placeOf_8 ?_
  refine x_iadd (pc := 9) dX6_placeOf_9 ?_
  refine x_nmT (fun u5 eu5 => ?_)
  have h := h u5 eu5
  refine x_istore_n (pc := 10) (al' := [(0, vR 1), (1, vI x1), (2, vI u5)]) dX6_placeOf_10 rfl rfl (Nat.le_of_ble_eq_true rfl) ?_
  refine x_iconst (pc := 11) dX6_placeOf_11 ?_
  refine x_istore_n (pc := 12) (al' := [(0, vR 1), (1, vI x1), (2, vI u5), (3, vI 0)]) dX6_placeOf_12 rfl rfl (Nat.le_of_ble_eq_true rfl) ?_
  exact x_sub [0, 1, 2, 3] rfl h
set_option maxRecDepth 100000 in
set_option maxHeartbeats 4000000 in
theorem t_X6_placeOf_13 {Γ : GG} {P : MP} {I : MM} {R : Int → MM → Prop} {x1 x2 x3 : Int} (hM : LM Γ P)
    (h : (0 ≤ (x2 + x3)) ∧ ((x2 + x3) < 1655) ∧ (inR (I 3 ((x2 + x3)).toNat)) ∧ (inR x1) ∧ (((I 3 ((x2 + x3)).toNat) = x1 → R x3 I) ∧ (¬ (I 3 ((x2 + x3)).toNat) = x1 → XM Γ m_X6_placeOf 0 0 13 [(0, vR 1), (1, vI x1), (2, vI x2), (3, vI (x3 + 1))] [] P I (ri P R)))) :
    XM Γ m_X6_placeOf 0 0 13 [(0, vR 1), (1, vI x1), (2, vI x2), (3, vI x3)] [] P I (ri P R) := by
  refine x_aload_n (pc := 13) 0 dX6_placeOf_13 rfl ?_
  refine x_getP (pc := 14) dX6_placeOf_14 FC6 8 (by decide) rfl fl_X6_17 (LM_ob hM) (LM_p8 hM) ?_
  refine x_iload_n (pc := 17) 2 dX6_placeOf_17 rfl ?_
  refine x_iload_n (pc := 18) 3 dX6_placeOf_18 rfl ?_
  refine x_iadd (pc := 19) dX6_placeOf_19 ?_
  obtain ⟨hv1, h⟩ := h
  obtain ⟨hv2, h⟩ := h
  refine x_iald (pc := 20) dX6_placeOf_20 (LM_a8 hM) hv1 hv2 (by decide) ?_
  refine x_iload_n (pc := 21) 1 dX6_placeOf_21 rfl ?_
  obtain ⟨hr3, h⟩ := h
  obtain ⟨hr4, h⟩ := h
  obtain ⟨hA5, hB6⟩ := h
  refine x_icmp_eq (pc := 22) 31 dX6_placeOf_22 (by decide) hr3 hr4 (fun hc => ?_) (fun hc => ?_)
  · have h := hA5 hc
    refine x_iload_n (pc := 31) 3 dX6_placeOf_31 rfl ?_
    exact x_iret (pc := 32) dX6_placeOf_32 rfl (Nat.le_refl _) (Nat.le_refl _) ⟨_, rfl, rfl, h⟩
  · have h := hB6 hc
    refine x_iinc (pc := 25) (al' := [(0, vR 1), (1, vI x1), (2, vI x2), (3, vI (x3 + 1))]) 3 dX6_placeOf_25 rfl rfl rfl (Nat.le_of_ble_eq_true rfl) ?_
    refine x_goto (pc := 28) 13 dX6_placeOf_28 (by decide) ?_
    exact x_sub [0, 1, 2, 3] rfl h
set_option maxRecDepth 100000 in
set_option maxHeartbeats 4000000 in
theorem t_X6_isBlocking_0 {Γ : GG} {P : MP} {I : MM} {R : Int → MM → Prop} {x1 : Int} (hM : LM Γ P)
    (h : (Cl Γ m_X6_machineOf [vR 1, vI x1] P I (ri P (fun (z1 : Int) (I2 : MM) => (Cl Γ m_X6_machine [vI z1] P I2 (ri P (fun (z3 : Int) (I4 : MM) => (0 ≤ z3) ∧ (z3 < 1655) ∧ (inR (I4 3 (z3).toNat)) ∧ (((I4 3 (z3).toNat) ≠ 0 → R 0 I4) ∧ ((I4 3 (z3).toNat) = 0 → (Cl Γ m_X6_isLast [vR 1, vI x1] P I4 (ri P (fun (z10 : Int) (I11 : MM) => (inR z10) ∧ ((z10 ≠ 0 → R 0 I11) ∧ (z10 = 0 → R 1 I11)))))))))))))) :
    XM Γ m_X6_isBlocking 0 0 0 [(0, vR 1), (1, vI x1)] [] P I (ri P R) := by
  refine x_aload_n (pc := 0) 0 dX6_isBlocking_0 rfl ?_
  refine x_getP (pc := 1) dX6_isBlocking_1 FC6 8 (by decide) rfl fl_X6_17 (LM_ob hM) (LM_p8 hM) ?_
  refine x_aload_n (pc := 4) 0 dX6_isBlocking_4 rfl ?_
  refine x_iload_n (pc := 5) 1 dX6_isBlocking_5 rfl ?_
  refine x_Vi (μ := m_X6_isBlocking) (pc := 6) dX6_isBlocking_6 h k_X6_machineOf ml_X6_193 ⟨Nat.le_of_ble_eq_true rfl, Nat.le_of_ble_eq_true rfl⟩ ⟨rfl, rfl⟩ ⟨Nat.zero_le _, Nat.zero_le _⟩ rfl (LM_ob hM) rfl (Nat.le_of_ble_eq_true rfl) _ rfl (fun z1 I2 h => ?_)
  refine x_Si (μ := m_X6_isBlocking) (pc := 9) dX6_isBlocking_9 h k_X6_machine ml_X6_158 ⟨Nat.le_of_ble_eq_true rfl, Nat.le_of_ble_eq_true rfl⟩ ⟨rfl, rfl⟩ ⟨Nat.zero_le _, Nat.zero_le _⟩ rfl (Nat.le_of_ble_eq_true rfl) _ rfl (fun z3 I4 h => ?_)
  obtain ⟨hv5, h⟩ := h
  obtain ⟨hv6, h⟩ := h
  refine x_iald (pc := 12) dX6_isBlocking_12 (LM_a8 hM) hv5 hv6 (by decide) ?_
  obtain ⟨hr7, h⟩ := h
  obtain ⟨hA8, hB9⟩ := h
  refine x_if_ne (pc := 13) 28 dX6_isBlocking_13 (by decide) hr7 (fun hc => ?_) (fun hc => ?_)
  · have h := hA8 hc
    refine x_iconst (pc := 28) dX6_isBlocking_28 ?_
    exact x_zret (pc := 29) dX6_isBlocking_29 rfl (by decide) (Nat.le_refl _) (Nat.le_refl _) ⟨_, rfl, rfl, h⟩
  · have h := hB9 hc
    refine x_aload_n (pc := 16) 0 dX6_isBlocking_16 rfl ?_
    refine x_iload_n (pc := 17) 1 dX6_isBlocking_17 rfl ?_
    refine x_Vi (μ := m_X6_isBlocking) (pc := 18) dX6_isBlocking_18 h k_X6_isLast ml_X6_196 ⟨Nat.le_of_ble_eq_true rfl, Nat.le_of_ble_eq_true rfl⟩ ⟨rfl, rfl⟩ ⟨Nat.zero_le _, Nat.zero_le _⟩ rfl (LM_ob hM) rfl (Nat.le_of_ble_eq_true rfl) _ rfl (fun z10 I11 h => ?_)
    obtain ⟨hr12, h⟩ := h
    obtain ⟨hA13, hB14⟩ := h
    refine x_if_ne (pc := 21) 28 dX6_isBlocking_21 (by decide) hr12 (fun hc => ?_) (fun hc => ?_)
    · have h := hA13 hc
      refine x_iconst (pc := 28) dX6_isBlocking_28 ?_
      exact x_zret (pc := 29) dX6_isBlocking_29 rfl (by decide) (Nat.le_refl _) (Nat.le_refl _) ⟨_, rfl, rfl, h⟩
    · have h := hB14 hc
      refine x_iconst (pc := 24) dX6_isBlocking_24 ?_
      refine x_goto (pc := 25) 29 dX6_isBlocking_25 (by decide) ?_
      exact x_zret (pc := 29) dX6_isBlocking_29 rfl (by decide) (Nat.le_refl _) (Nat.le_refl _) ⟨_, rfl, rfl, h⟩
set_option maxRecDepth 100000 in
set_option maxHeartbeats 4000000 in
theorem t_X6_layArcs_0 {Γ : GG} {P : MP} {I : MM} {R : MM → Prop} (hM : LM Γ P)
    (h : XM Γ m_X6_layArcs 0 0 2 [(0, vR 1), (1, vI 0)] [] P I (rv P R)) :
    XM Γ m_X6_layArcs 0 0 0 [(0, vR 1)] [] P I (rv P R) := by
  refine x_iconst (pc := 0) dX6_layArcs_0 ?_
  refine x_istore_n (pc := 1) (al' := [(0, vR 1), (1, vI 0)]) dX6_layArcs_1 rfl rfl (Nat.le_of_ble_eq_true rfl) ?_
  exact x_sub [0, 1] rfl h
set_option maxRecDepth 100000 in
set_option maxHeartbeats 4000000 in
theorem t_X6_layArcs_2 {Γ : GG} {P : MP} {I : MM} {R : MM → Prop} {x1 : Int} (hM : LM Γ P)
    (h : (inR x1) ∧ ((36 ≤ x1 → XM Γ m_X6_layArcs 0 0 23 [(0, vR 1), (1, vI 0)] [] P I (rv P R)) ∧ (¬ 36 ≤ x1 → (0 ≤ x1) ∧ (x1 < 36) ∧ (∀ I6 : MM, I6 = up2 I 7 (x1).toNat (-1) → XM Γ m_X6_layArcs 0 0 2 [(0, vR 1), (1, vI (x1 + 1))] [] P I6 (rv P R))))) :
    XM Γ m_X6_layArcs 0 0 2 [(0, vR 1), (1, vI x1)] [] P I (rv P R) := by
  refine x_iload_n (pc := 2) 1 dX6_layArcs_2 rfl ?_
  refine x_bipush (pc := 3) dX6_layArcs_3 rfl ?_
  obtain ⟨hr1, h⟩ := h
  obtain ⟨hA2, hB3⟩ := h
  refine x_icmp_ge (pc := 5) 21 dX6_layArcs_5 (by decide) hr1 ⟨by decide, by decide⟩ (fun hc => ?_) (fun hc => ?_)
  · have h := hA2 hc
    refine x_iconst (pc := 21) dX6_layArcs_21 ?_
    refine x_istore_n (pc := 22) (al' := [(0, vR 1), (1, vI 0)]) dX6_layArcs_22 rfl rfl (Nat.le_of_ble_eq_true rfl) ?_
    exact x_sub [0, 1] rfl h
  · have h := hB3 hc
    refine x_aload_n (pc := 8) 0 dX6_layArcs_8 rfl ?_
    refine x_getP (pc := 9) dX6_layArcs_9 FC6 16 (by decide) rfl fl_X6_31 (LM_ob hM) (LM_p16 hM) ?_
    refine x_iload_n (pc := 12) 1 dX6_layArcs_12 rfl ?_
    refine x_iconst (pc := 13) dX6_layArcs_13 ?_
    obtain ⟨hv4, h⟩ := h
    obtain ⟨hv5, h⟩ := h
    refine x_iast (pc := 14) dX6_layArcs_14 (LM_a16 hM) hv4 hv5 (by decide) ?_
    refine x_nmI (fun I6 eI6 => ?_)
    have h := h I6 eI6
    refine x_iinc (pc := 15) (al' := [(0, vR 1), (1, vI (x1 + 1))]) 1 dX6_layArcs_15 rfl rfl rfl (Nat.le_of_ble_eq_true rfl) ?_
    refine x_goto (pc := 18) 2 dX6_layArcs_18 (by decide) ?_
    exact x_sub [0, 1] rfl h
set_option maxRecDepth 100000 in
set_option maxHeartbeats 4000000 in
theorem t_X6_layArcs_23 {Γ : GG} {P : MP} {I : MM} {R : MM → Prop} {x1 : Int} (hM : LM Γ P)
    (h : (inR x1) ∧ (inR (I 3 0)) ∧ (((I 3 0) ≤ x1 → R I) ∧ (¬ (I 3 0) ≤ x1 → (Cl Γ m_X6_machine [vI x1] P I (ri P (fun (z5 : Int) (I6 : MM) => XM Γ m_X6_layArcs 0 0 40 [(0, vR 1), (1, vI x1), (2, vI z5), (3, vI 1)] [] P I6 (rv P R))))))) :
    XM Γ m_X6_layArcs 0 0 23 [(0, vR 1), (1, vI x1)] [] P I (rv P R) := by
  refine x_iload_n (pc := 23) 1 dX6_layArcs_23 rfl ?_
  refine x_aload_n (pc := 24) 0 dX6_layArcs_24 rfl ?_
  refine x_getP (pc := 25) dX6_layArcs_25 FC6 8 (by decide) rfl fl_X6_17 (LM_ob hM) (LM_p8 hM) ?_
  refine x_iconst (pc := 28) dX6_layArcs_28 ?_
  refine x_iald (pc := 29) dX6_layArcs_29 (LM_a8 hM) (by decide) (by decide) (by decide) ?_
  obtain ⟨hr1, h⟩ := h
  obtain ⟨hr2, h⟩ := h
  obtain ⟨hA3, hB4⟩ := h
  refine x_icmp_ge (pc := 30) 150 dX6_layArcs_30 (by decide) hr1 hr2 (fun hc => ?_) (fun hc => ?_)
  · have h := hA3 hc
    exact x_vret (pc := 150) dX6_layArcs_150 rfl (Nat.le_refl _) (Nat.le_refl _) ⟨rfl, rfl, h⟩
  · have h := hB4 hc
    refine x_iload_n (pc := 33) 1 dX6_layArcs_33 rfl ?_
    refine x_Si (μ := m_X6_layArcs) (pc := 34) dX6_layArcs_34 h k_X6_machine ml_X6_158 ⟨Nat.le_of_ble_eq_true rfl, Nat.le_of_ble_eq_true rfl⟩ ⟨rfl, rfl⟩ ⟨Nat.zero_le _, Nat.zero_le _⟩ rfl (Nat.le_of_ble_eq_true rfl) _ rfl (fun z5 I6 h => ?_)
    refine x_istore_n (pc := 37) (al' := [(0, vR 1), (1, vI x1), (2, vI z5)]) dX6_layArcs_37 rfl rfl (Nat.le_of_ble_eq_true rfl) ?_
    refine x_iconst (pc := 38) dX6_layArcs_38 ?_
    refine x_istore_n (pc := 39) (al' := [(0, vR 1), (1, vI x1), (2, vI z5), (3, vI 1)]) dX6_layArcs_39 rfl rfl (Nat.le_of_ble_eq_true rfl) ?_
    exact x_sub [0, 1, 2, 3] rfl h
set_option maxRecDepth 100000 in
set_option maxHeartbeats 4000000 in
theorem t_X6_layArcs_40 {Γ : GG} {P : MP} {I : MM} {R : MM → Prop} {x1 x2 x3 : Int} (hM : LM Γ P)
    (h : (0 ≤ (x2 + 2)) ∧ ((x2 + 2) < 1655) ∧ (inR x3) ∧ (inR (I 3 ((x2 + 2)).toNat)) ∧ (((I 3 ((x2 + 2)).toNat) ≤ x3 → XM Γ m_X6_layArcs 0 0 23 [(0, vR 1), (1, vI (x1 + 1))] [] P I (rv P R)) ∧ (¬ (I 3 ((x2 + 2)).toNat) ≤ x3 → (0 ≤ (((x2 + 3) + x3) - 1)) ∧ ((((x2 + 3) + x3) - 1) < 1655) ∧ (∀ u9 : Int, u9 = (I 3 ((((x2 + 3) + x3) - 1)).toNat) → (0 ≤ ((x2 + 3) + x3)) ∧ (((x2 + 3) + x3) < 1655) ∧ (∀ u12 : Int, u12 = (I 3 (((x2 + 3) + x3)).toNat) → (Cl Γ m_X6_isBlocking [vR 1, vI u9] P I (ri P (fun (z13 : Int) (I14 : MM) => (inR z13) ∧ ((z13 = 0 → (0 ≤ u12) ∧ (u12 < 36) ∧ (∀ I20 : MM, I20 = up2 I14 7 (u12).toNat u9 → (0 ≤ (x2 + 1)) ∧ ((x2 + 1) < 1655) ∧ (Cl Γ m_X6_isBlocking [vR 1, vI u9] P I20 (ri P (fun (z23 : Int) (I24 : MM) => (inR z23) ∧ ((z23 = 0 → (Cl Γ m_X6_durationOf [vR 1, vI u9] P I24 (ri P (fun (z28 : Int) (I29 : MM) => (∀ I30 : MM, I30 = up2 I29 8 (u12).toNat ((I20 3 ((x2 + 1)).toNat) + z28) → XM Γ m_X6_layArcs 0 0 40 [(0, vR 1), (1, vI x1), (2, vI x2), (3, vI (x3 + 1))] [] P I30 (rv P R)))))) ∧ (¬ z23 = 0 → (∀ I31 : MM, I31 = up2 I24 8 (u12).toNat ((I20 3 ((x2 + 1)).toNat) + 0) → XM Γ m_X6_layArcs 0 0 40 [(0, vR 1), (1, vI x1), (2, vI x2), (3, vI (x3 + 1))] [] P I31 (rv P R))))))))) ∧ (¬ z13 = 0 → (0 ≤ u12) ∧ (u12 < 36) ∧ (∀ I34 : MM, I34 = up2 I14 7 (u12).toNat (u9 + 1) → (0 ≤ (x2 + 1)) ∧ ((x2 + 1) < 1655) ∧ (Cl Γ m_X6_isBlocking [vR 1, vI u9] P I34 (ri P (fun (z37 : Int) (I38 : MM) => (inR z37) ∧ ((z37 = 0 → (Cl Γ m_X6_durationOf [vR 1, vI u9] P I38 (ri P (fun (z42 : Int) (I43 : MM) => (∀ I44 : MM, I44 = up2 I43 8 (u12).toNat ((I34 3 ((x2 + 1)).toNat) + z42) → XM Γ m_X6_layArcs 0 0 40 [(0, vR 1), (1, vI x1), (2, vI x2), (3, vI (x3 + 1))] [] P I44 (rv P R)))))) ∧ (¬ z37 = 0 → (∀ I45 : MM, I45 = up2 I38 8 (u12).toNat ((I34 3 ((x2 + 1)).toNat) + 0) → XM Γ m_X6_layArcs 0 0 40 [(0, vR 1), (1, vI x1), (2, vI x2), (3, vI (x3 + 1))] [] P I45 (rv P R)))))))))))))))))) :
    XM Γ m_X6_layArcs 0 0 40 [(0, vR 1), (1, vI x1), (2, vI x2), (3, vI x3)] [] P I (rv P R) := by
  refine x_iload_n (pc := 40) 3 dX6_layArcs_40 rfl ?_
  refine x_aload_n (pc := 41) 0 dX6_layArcs_41 rfl ?_
  refine x_getP (pc := 42) dX6_layArcs_42 FC6 8 (by decide) rfl fl_X6_17 (LM_ob hM) (LM_p8 hM) ?_
  refine x_iload_n (pc := 45) 2 dX6_layArcs_45 rfl ?_
  refine x_iconst (pc := 46) dX6_layArcs_46 ?_
  refine x_iadd (pc := 47) dX6_layArcs_47 ?_
  obtain ⟨hv1, h⟩ := h
  obtain ⟨hv2, h⟩ := h
  refine x_iald (pc := 48) dX6_layArcs_48 (LM_a8 hM) hv1 hv2 (by decide) ?_
  obtain ⟨hr3, h⟩ := h
  obtain ⟨hr4, h⟩ := h
  obtain ⟨hA5, hB6⟩ := h
  refine x_icmp_ge (pc := 49) 144 dX6_layArcs_49 (by decide) hr3 hr4 (fun hc => ?_) (fun hc => ?_)
  · have h := hA5 hc
    refine x_iinc (pc := 144) (al' := [(0, vR 1), (1, vI (x1 + 1)), (2, vI x2), (3, vI x3)]) 1 dX6_layArcs_144 rfl rfl rfl (Nat.le_of_ble_eq_true rfl) ?_
    refine x_goto (pc := 147) 23 dX6_layArcs_147 (by decide) ?_
    exact x_sub [0, 1] rfl h
  · have h := hB6 hc
    refine x_aload_n (pc := 52) 0 dX6_layArcs_52 rfl ?_
    refine x_getP (pc := 53) dX6_layArcs_53 FC6 8 (by decide) rfl fl_X6_17 (LM_ob hM) (LM_p8 hM) ?_
    refine x_iload_n (pc := 56) 2 dX6_layArcs_56 rfl ?_
    refine x_iconst (pc := 57) dX6_layArcs_57 ?_
    refine x_iadd (pc := 58) dX6_layArcs_58 ?_
    refine x_iload_n (pc := 59) 3 dX6_layArcs_59 rfl ?_
    refine x_iadd (pc := 60) dX6_layArcs_60 ?_
    refine x_iconst (pc := 61) dX6_layArcs_61 ?_
    refine x_isub (pc := 62) dX6_layArcs_62 ?_
    obtain ⟨hv7, h⟩ := h
    obtain ⟨hv8, h⟩ := h
    refine x_iald (pc := 63) dX6_layArcs_63 (LM_a8 hM) hv7 hv8 (by decide) ?_
    refine x_nmT (fun u9 eu9 => ?_)
    have h := h u9 eu9
    refine x_istore (pc := 64) (al' := [(0, vR 1), (1, vI x1), (2, vI x2), (3, vI x3), (4, vI u9)]) dX6_layArcs_64 rfl rfl (Nat.le_of_ble_eq_true rfl) ?_
    refine x_aload_n (pc := 66) 0 dX6_layArcs_66 rfl ?_
    refine x_getP (pc := 67) dX6_layArcs_67 FC6 8 (by decide) rfl fl_X6_17 (LM_ob hM) (LM_p8 hM) ?_
    refine x_iload_n (pc := 70) 2 dX6_layArcs_70 rfl ?_
    refine x_iconst (pc := 71) dX6_layArcs_71 ?_
    refine x_iadd (pc := 72) dX6_layArcs_72 ?_
    refine x_iload_n (pc := 73) 3 dX6_layArcs_73 rfl ?_
    refine x_iadd (pc := 74) dX6_layArcs_74 ?_
    obtain ⟨hv10, h⟩ := h
    obtain ⟨hv11, h⟩ := h
    refine x_iald (pc := 75) dX6_layArcs_75 (LM_a8 hM) hv10 hv11 (by decide) ?_
    refine x_nmT (fun u12 eu12 => ?_)
    have h := h u12 eu12
    refine x_istore (pc := 76) (al' := [(0, vR 1), (1, vI x1), (2, vI x2), (3, vI x3), (4, vI u9), (5, vI u12)]) dX6_layArcs_76 rfl rfl (Nat.le_of_ble_eq_true rfl) ?_
    refine x_aload_n (pc := 78) 0 dX6_layArcs_78 rfl ?_
    refine x_getP (pc := 79) dX6_layArcs_79 FC6 16 (by decide) rfl fl_X6_31 (LM_ob hM) (LM_p16 hM) ?_
    refine x_iload (pc := 82) 5 dX6_layArcs_82 rfl ?_
    refine x_aload_n (pc := 84) 0 dX6_layArcs_84 rfl ?_
    refine x_iload (pc := 85) 4 dX6_layArcs_85 rfl ?_
    refine x_Vi (μ := m_X6_layArcs) (pc := 87) dX6_layArcs_87 h k_X6_isBlocking ml_X6_199 ⟨Nat.le_of_ble_eq_true rfl, Nat.le_of_ble_eq_true rfl⟩ ⟨rfl, rfl⟩ ⟨Nat.zero_le _, Nat.zero_le _⟩ rfl (LM_ob hM) rfl (Nat.le_of_ble_eq_true rfl) _ rfl (fun z13 I14 h => ?_)
    obtain ⟨hr15, h⟩ := h
    obtain ⟨hA16, hB17⟩ := h
    refine x_if_eq (pc := 90) 100 dX6_layArcs_90 (by decide) hr15 (fun hc => ?_) (fun hc => ?_)
    · have h := hA16 hc
      refine x_iload (pc := 100) 4 dX6_layArcs_100 rfl ?_
      obtain ⟨hv18, h⟩ := h
      obtain ⟨hv19, h⟩ := h
      refine x_iast (pc := 102) dX6_layArcs_102 (LM_a16 hM) hv18 hv19 (by decide) ?_
      refine x_nmI (fun I20 eI20 => ?_)
      have h := h I20 eI20
      refine x_aload_n (pc := 103) 0 dX6_layArcs_103 rfl ?_
      refine x_getP (pc := 104) dX6_layArcs_104 FC6 17 (by decide) rfl fl_X6_34 (LM_ob hM) (LM_p17 hM) ?_
      refine x_iload (pc := 107) 5 dX6_layArcs_107 rfl ?_
      refine x_aload_n (pc := 109) 0 dX6_layArcs_109 rfl ?_
      refine x_getP (pc := 110) dX6_layArcs_110 FC6 8 (by decide) rfl fl_X6_17 (LM_ob hM) (LM_p8 hM) ?_
      refine x_iload_n (pc := 113) 2 dX6_layArcs_113 rfl ?_
      refine x_iconst (pc := 114) dX6_layArcs_114 ?_
      refine x_iadd (pc := 115) dX6_layArcs_115 ?_
      obtain ⟨hv21, h⟩ := h
      obtain ⟨hv22, h⟩ := h
      refine x_iald (pc := 116) dX6_layArcs_116 (LM_a8 hM) hv21 hv22 (by decide) ?_
      refine x_aload_n (pc := 117) 0 dX6_layArcs_117 rfl ?_
      refine x_iload (pc := 118) 4 dX6_layArcs_118 rfl ?_
      refine x_Vi (μ := m_X6_layArcs) (pc := 120) dX6_layArcs_120 h k_X6_isBlocking ml_X6_199 ⟨Nat.le_of_ble_eq_true rfl, Nat.le_of_ble_eq_true rfl⟩ ⟨rfl, rfl⟩ ⟨Nat.zero_le _, Nat.zero_le _⟩ rfl (LM_ob hM) rfl (Nat.le_of_ble_eq_true rfl) _ rfl (fun z23 I24 h => ?_)
      obtain ⟨hr25, h⟩ := h
      obtain ⟨hA26, hB27⟩ := h
      refine x_if_eq (pc := 123) 130 dX6_layArcs_123 (by decide) hr25 (fun hc => ?_) (fun hc => ?_)
      · have h := hA26 hc
        refine x_aload_n (pc := 130) 0 dX6_layArcs_130 rfl ?_
        refine x_iload (pc := 131) 4 dX6_layArcs_131 rfl ?_
        refine x_Vi (μ := m_X6_layArcs) (pc := 133) dX6_layArcs_133 h k_X6_durationOf ml_X6_202 ⟨Nat.le_of_ble_eq_true rfl, Nat.le_of_ble_eq_true rfl⟩ ⟨rfl, rfl⟩ ⟨Nat.zero_le _, Nat.zero_le _⟩ rfl (LM_ob hM) rfl (Nat.le_of_ble_eq_true rfl) _ rfl (fun z28 I29 h => ?_)
        refine x_iadd (pc := 136) dX6_layArcs_136 ?_
        refine x_iast (pc := 137) dX6_layArcs_137 (LM_a17 hM) hv18 hv19 (by decide) ?_
        refine x_nmI (fun I30 eI30 => ?_)
        have h := h I30 eI30
        refine x_iinc (pc := 138) (al' := [(0, vR 1), (1, vI x1), (2, vI x2), (3, vI (x3 + 1)), (4, vI u9), (5, vI u12)]) 3 dX6_layArcs_138 rfl rfl rfl (Nat.le_of_ble_eq_true rfl) ?_
        refine x_goto (pc := 141) 40 dX6_layArcs_141 (by decide) ?_
        exact x_sub [0, 1, 2, 3] rfl h
      · have h := hB27 hc
        refine x_iconst (pc := 126) dX6_layArcs_126 ?_
        refine x_goto (pc := 127) 136 dX6_layArcs_127 (by decide) ?_
        refine x_iadd (pc := 136) dX6_layArcs_136 ?_
        refine x_iast (pc := 137) dX6_layArcs_137 (LM_a17 hM) hv18 hv19 (by decide) ?_
        refine x_nmI (fun I31 eI31 => ?_)
        have h := h I31 eI31
        refine x_iinc (pc := 138) (al' := [(0, vR 1), (1, vI x1), (2, vI x2), (3, vI (x3 + 1)), (4, vI u9), (5, vI u12)]) 3 dX6_layArcs_138 rfl rfl rfl (Nat.le_of_ble_eq_true rfl) ?_
        refine x_goto (pc := 141) 40 dX6_layArcs_141 (by decide) ?_
        exact x_sub [0, 1, 2, 3] rfl h
    · have h := hB17 hc
      refine x_iload (pc := 93) 4 dX6_layArcs_93 rfl ?_
      refine x_iconst (pc := 95) dX6_layArcs_95 ?_
      refine x_iadd (pc := 96) dX6_layArcs_96 ?_
      refine x_goto (pc := 97) 102 dX6_layArcs_97 (by decide) ?_
      obtain ⟨hv32, h⟩ := h
      obtain ⟨hv33, h⟩ := h
      refine x_iast (pc := 102) dX6_layArcs_102 (LM_a16 hM) hv32 hv33 (by decide) ?_
      refine x_nmI (fun I34 eI34 => ?_)
      have h := h I34 eI34
      refine x_aload_n (pc := 103) 0 dX6_layArcs_103 rfl ?_
      refine x_getP (pc := 104) dX6_layArcs_104 FC6 17 (by decide) rfl fl_X6_34 (LM_ob hM) (LM_p17 hM) ?_
      refine x_iload (pc := 107) 5 dX6_layArcs_107 rfl ?_
      refine x_aload_n (pc := 109) 0 dX6_layArcs_109 rfl ?_
      refine x_getP (pc := 110) dX6_layArcs_110 FC6 8 (by decide) rfl fl_X6_17 (LM_ob hM) (LM_p8 hM) ?_
      refine x_iload_n (pc := 113) 2 dX6_layArcs_113 rfl ?_
      refine x_iconst (pc := 114) dX6_layArcs_114 ?_
      refine x_iadd (pc := 115) dX6_layArcs_115 ?_
      obtain ⟨hv35, h⟩ := h
      obtain ⟨hv36, h⟩ := h
      refine x_iald (pc := 116) dX6_layArcs_116 (LM_a8 hM) hv35 hv36 (by decide) ?_
      refine x_aload_n (pc := 117) 0 dX6_layArcs_117 rfl ?_
      refine x_iload (pc := 118) 4 dX6_layArcs_118 rfl ?_
      refine x_Vi (μ := m_X6_layArcs) (pc := 120) dX6_layArcs_120 h k_X6_isBlocking ml_X6_199 ⟨Nat.le_of_ble_eq_true rfl, Nat.le_of_ble_eq_true rfl⟩ ⟨rfl, rfl⟩ ⟨Nat.zero_le _, Nat.zero_le _⟩ rfl (LM_ob hM) rfl (Nat.le_of_ble_eq_true rfl) _ rfl (fun z37 I38 h => ?_)
      obtain ⟨hr39, h⟩ := h
      obtain ⟨hA40, hB41⟩ := h
      refine x_if_eq (pc := 123) 130 dX6_layArcs_123 (by decide) hr39 (fun hc => ?_) (fun hc => ?_)
      · have h := hA40 hc
        refine x_aload_n (pc := 130) 0 dX6_layArcs_130 rfl ?_
        refine x_iload (pc := 131) 4 dX6_layArcs_131 rfl ?_
        refine x_Vi (μ := m_X6_layArcs) (pc := 133) dX6_layArcs_133 h k_X6_durationOf ml_X6_202 ⟨Nat.le_of_ble_eq_true rfl, Nat.le_of_ble_eq_true rfl⟩ ⟨rfl, rfl⟩ ⟨Nat.zero_le _, Nat.zero_le _⟩ rfl (LM_ob hM) rfl (Nat.le_of_ble_eq_true rfl) _ rfl (fun z42 I43 h => ?_)
        refine x_iadd (pc := 136) dX6_layArcs_136 ?_
        refine x_iast (pc := 137) dX6_layArcs_137 (LM_a17 hM) hv32 hv33 (by decide) ?_
        refine x_nmI (fun I44 eI44 => ?_)
        have h := h I44 eI44
        refine x_iinc (pc := 138) (al' := [(0, vR 1), (1, vI x1), (2, vI x2), (3, vI (x3 + 1)), (4, vI u9), (5, vI u12)]) 3 dX6_layArcs_138 rfl rfl rfl (Nat.le_of_ble_eq_true rfl) ?_
        refine x_goto (pc := 141) 40 dX6_layArcs_141 (by decide) ?_
        exact x_sub [0, 1, 2, 3] rfl h
      · have h := hB41 hc
        refine x_iconst (pc := 126) dX6_layArcs_126 ?_
        refine x_goto (pc := 127) 136 dX6_layArcs_127 (by decide) ?_
        refine x_iadd (pc := 136) dX6_layArcs_136 ?_
        refine x_iast (pc := 137) dX6_layArcs_137 (LM_a17 hM) hv32 hv33 (by decide) ?_
        refine x_nmI (fun I45 eI45 => ?_)
        have h := h I45 eI45
        refine x_iinc (pc := 138) (al' := [(0, vR 1), (1, vI x1), (2, vI x2), (3, vI (x3 + 1)), (4, vI u9), (5, vI u12)]) 3 dX6_layArcs_138 rfl rfl rfl (Nat.le_of_ble_eq_true rfl) ?_
        refine x_goto (pc := 141) 40 dX6_layArcs_141 (by decide) ?_
        exact x_sub [0, 1, 2, 3] rfl h
