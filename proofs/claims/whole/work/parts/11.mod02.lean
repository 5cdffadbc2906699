set_option maxRecDepth 100000 in
set_option maxHeartbeats 4000000 in
theorem t_X6_expect_0 {Γ : GG} {P : MP} {I : MM} {R : MM → Prop} {x1 : Int} (hM : LM Γ P)
    (h : (Cl Γ m_X6_isGood [vR 1] P I (ri P (fun (z1 : Int) (I2 : MM) => (inR z1) ∧ ((z1 ≠ 0 → (Cl Γ m_X6_next [vR 1] P I2 (ri P (fun (z6 : Int) (I7 : MM) => (inR z6) ∧ (inR x1) ∧ ((z6 ≠ x1 → (Cl Γ m_X6_report [vR 1, vI (-2), vI (I7 1 4)] P I7 (rv P (fun (I12 : MM) => R I12)))) ∧ (z6 = x1 → (∀ I13 : MM, I13 = up2 I7 1 4 ((I7 1 4) + 1) → R I13))))))) ∧ (z1 = 0 → R I2)))))) :
    XM Γ m_X6_expect 0 0 0 [(0, vR 1), (1, vI x1)] [] P I (rv P R) := by
  refine x_aload_n (pc := 0) 0 dX6_expect_0 rfl ?_
  refine x_Vi (μ := m_X6_expect) (pc := 1) dX6_expect_1 h k_X6_isGood ml_X6_77 ⟨Nat.le_of_ble_eq_true rfl, Nat.le_of_ble_eq_true rfl⟩ ⟨rfl, rfl⟩ ⟨Nat.zero_le _, Nat.zero_le _⟩ rfl (LM_ob hM) rfl (Nat.le_of_ble_eq_true rfl) _ rfl (fun z1 I2 h => ?_)
  obtain ⟨hr3, h⟩ := h
  obtain ⟨hA4, hB5⟩ := h
  refine x_if_ne (pc := 4) 8 dX6_expect_4 (by decide) hr3 (fun hc => ?_) (fun hc => ?_)
  · have h := hA4 hc
    refine x_aload_n (pc := 8) 0 dX6_expect_8 rfl ?_
    refine x_Vi (μ := m_X6_expect) (pc := 9) dX6_expect_9 h k_X6_next ml_X6_81 ⟨Nat.le_of_ble_eq_true rfl, Nat.le_of_ble_eq_true rfl⟩ ⟨rfl, rfl⟩ ⟨Nat.zero_le _, Nat.zero_le _⟩ rfl (LM_ob hM) rfl (Nat.le_of_ble_eq_true rfl) _ rfl (fun z6 I7 h => ?_)
    refine x_iload_n (pc := 12) 1 dX6_expect_12 rfl ?_
    obtain ⟨hr8, h⟩ := h
    obtain ⟨hr9, h⟩ := h
    obtain ⟨hA10, hB11⟩ := h
    refine x_icmp_ne (pc := 13) 29 dX6_expect_13 (by decide) hr8 hr9 (fun hc => ?_) (fun hc => ?_)
    · have h := hA10 hc
      refine x_aload_n (pc := 29) 0 dX6_expect_29 rfl ?_
      refine x_bipush (pc := 30) dX6_expect_30 rfl ?_
      refine x_aload_n (pc := 32) 0 dX6_expect_32 rfl ?_
      refine x_getI (pc := 33) dX6_expect_33 FC6 4 (by decide) rfl fl_X6_60 (LM_ob hM) ?_
      refine x_Vv (μ := m_X6_expect) (pc := 36) dX6_expect_36 h k_X6_report ml_X6_94 ⟨Nat.le_of_ble_eq_true rfl, Nat.le_of_ble_eq_true rfl⟩ ⟨rfl, rfl⟩ ⟨Nat.zero_le _, Nat.zero_le _⟩ rfl (LM_ob hM) rfl (Nat.le_of_ble_eq_true rfl) _ rfl (fun I12 h => ?_)
      exact x_vret (pc := 39) dX6_expect_39 rfl (Nat.le_refl _) (Nat.le_refl _) ⟨rfl, rfl, h⟩
    · have h := hB11 hc
      refine x_aload_n (pc := 16) 0 dX6_expect_16 rfl ?_
      refine x_dup (pc := 17) dX6_expect_17 rfl ?_
      refine x_getI (pc := 18) dX6_expect_18 FC6 4 (by decide) rfl fl_X6_60 (LM_ob hM) ?_
      refine x_iconst (pc := 21) dX6_expect_21 ?_
      refine x_iadd (pc := 22) dX6_expect_22 ?_
      refine x_putI (pc := 23) dX6_expect_23 FC6 4 (by decide) rfl rfl fl_X6_60 (LM_ob hM) ?_
      refine x_nmI (fun I13 eI13 => ?_)
      have h := h I13 eI13
      refine x_goto (pc := 26) 39 dX6_expect_26 (by decide) ?_
      exact x_vret (pc := 39) dX6_expect_39 rfl (Nat.le_refl _) (Nat.le_refl _) ⟨rfl, rfl, h⟩
  · have h := hB5 hc
    exact x_vret (pc := 7) dX6_expect_7 rfl (Nat.le_refl _) (Nat.le_refl _) ⟨rfl, rfl, h⟩
set_option maxRecDepth 100000 in
set_option maxHeartbeats 4000000 in
theorem t_X6_number_0 {Γ : GG} {P : MP} {I : MM} {R : Int → MM → Prop} {x1 x2 : Int} (hM : LM Γ P)
    (h : (Cl Γ m_X6_isGood [vR 1] P I (ri P (fun (z1 : Int) (I2 : MM) => (inR z1) ∧ ((z1 ≠ 0 → (Cl Γ m_X6_next [vR 1] P I2 (ri P (fun (z6 : Int) (I7 : MM) => (Cl Γ m_X6_isDigit [vI z6] P I7 (ri P (fun (z8 : Int) (I9 : MM) => (inR z8) ∧ ((z8 ≠ 0 → (∀ I13 : MM, I13 = up2 I9 1 13 (I9 1 4) → XM Γ m_X6_number 0 0 41 [(0, vR 1), (1, vI x1), (2, vI x2), (3, vI 0)] [] P I13 (ri P R))) ∧ (z8 = 0 → (Cl Γ m_X6_report [vR 1, vI (-2), vI (I9 1 4)] P I9 (rv P (fun (I14 : MM) => R 0 I14)))))))))))) ∧ (z1 = 0 → R 0 I2)))))) :
    XM Γ m_X6_number 0 0 0 [(0, vR 1), (1, vI x1), (2, vI x2)] [] P I (ri P R) := by
  refine x_aload_n (pc := 0) 0 dX6_number_0 rfl ?_
  refine x_Vi (μ := m_X6_number) (pc := 1) dX6_number_1 h k_X6_isGood ml_X6_77 ⟨Nat.le_of_ble_eq_true rfl, Nat.le_of_ble_eq_true rfl⟩ ⟨rfl, rfl⟩ ⟨Nat.zero_le _, Nat.zero_le _⟩ rfl (LM_ob hM) rfl (Nat.le_of_ble_eq_true rfl) _ rfl (fun z1 I2 h => ?_)
  obtain ⟨hr3, h⟩ := h
  obtain ⟨hA4, hB5⟩ := h
  refine x_if_ne (pc := 4) 9 dX6_number_4 (by decide) hr3 (fun hc => ?_) (fun hc => ?_)
  · have h := hA4 hc
    refine x_aload_n (pc := 9) 0 dX6_number_9 rfl ?_
    refine x_Vi (μ := m_X6_number) (pc := 10) dX6_number_10 h k_X6_next ml_X6_81 ⟨Nat.le_of_ble_eq_true rfl, Nat.le_of_ble_eq_true rfl⟩ ⟨rfl, rfl⟩ ⟨Nat.zero_le _, Nat.zero_le _⟩ rfl (LM_ob hM) rfl (Nat.le_of_ble_eq_true rfl) _ rfl (fun z6 I7 h => ?_)
    refine x_Si (μ := m_X6_number) (pc := 13) dX6_number_13 h k_X6_isDigit ml_X6_98 ⟨Nat.le_of_ble_eq_true rfl, Nat.le_of_ble_eq_true rfl⟩ ⟨rfl, rfl⟩ ⟨Nat.zero_le _, Nat.zero_le _⟩ rfl (Nat.le_of_ble_eq_true rfl) _ rfl (fun z8 I9 h => ?_)
    obtain ⟨hr10, h⟩ := h
    obtain ⟨hA11, hB12⟩ := h
    refine x_if_ne (pc := 16) 31 dX6_number_16 (by decide) hr10 (fun hc => ?_) (fun hc => ?_)
    · have h := hA11 hc
      refine x_aload_n (pc := 31) 0 dX6_number_31 rfl ?_
      refine x_aload_n (pc := 32) 0 dX6_number_32 rfl ?_
      refine x_getI (pc := 33) dX6_number_33 FC6 4 (by decide) rfl fl_X6_60 (LM_ob hM) ?_
      refine x_putI (pc := 36) dX6_number_36 FC6 13 (by decide) rfl rfl fl_X6_102 (LM_ob hM) ?_
      refine x_nmI (fun I13 eI13 => ?_)
      have h := h I13 eI13
      refine x_iconst (pc := 39) dX6_number_39 ?_
      refine x_istore_n (pc := 40) (al' := [(0, vR 1), (1, vI x1), (2, vI x2), (3, vI 0)]) dX6_number_40 rfl rfl (Nat.le_of_ble_eq_true rfl) ?_
      exact x_sub [0, 1, 2, 3] rfl h
    · have h := hB12 hc
      refine x_aload_n (pc := 19) 0 dX6_number_19 rfl ?_
      refine x_bipush (pc := 20) dX6_number_20 rfl ?_
      refine x_aload_n (pc := 22) 0 dX6_number_22 rfl ?_
      refine x_getI (pc := 23) dX6_number_23 FC6 4 (by decide) rfl fl_X6_60 (LM_ob hM) ?_
      refine x_Vv (μ := m_X6_number) (pc := 26) dX6_number_26 h k_X6_report ml_X6_94 ⟨Nat.le_of_ble_eq_true rfl, Nat.le_of_ble_eq_true rfl⟩ ⟨rfl, rfl⟩ ⟨Nat.zero_le _, Nat.zero_le _⟩ rfl (LM_ob hM) rfl (Nat.le_of_ble_eq_true rfl) _ rfl (fun I14 h => ?_)
      refine x_iconst (pc := 29) dX6_number_29 ?_
      exact x_iret (pc := 30) dX6_number_30 rfl (Nat.le_refl _) (Nat.le_refl _) ⟨_, rfl, rfl, h⟩
  · have h := hB5 hc
    refine x_iconst (pc := 7) dX6_number_7 ?_
    exact x_iret (pc := 8) dX6_number_8 rfl (Nat.le_refl _) (Nat.le_refl _) ⟨_, rfl, rfl, h⟩
set_option maxRecDepth 100000 in
set_option maxHeartbeats 4000000 in
theorem t_X6_number_41 {Γ : GG} {P : MP} {I : MM} {R : Int → MM → Prop} {x1 x2 x3 : Int} (hM : LM Γ P)
    (h : (Cl Γ m_X6_byteAt [vR 1, vI (I 1 4)] P I (ri P (fun (z1 : Int) (I2 : MM) => (Cl Γ m_X6_isDigit [vI z1] P I2 (ri P (fun (z3 : Int) (I4 : MM) => (inR z3) ∧ ((z3 = 0 → (Cl Γ m_X6_in [vI x3, vI x1, vI x2] P I4 (ri P (fun (z8 : Int) (I9 : MM) => (inR z8) ∧ ((z8 ≠ 0 → R x3 I9) ∧ (z8 = 0 → (Cl Γ m_X6_report [vR 1, vI (-3), vI (I9 1 13)] P I9 (rv P (fun (I13 : MM) => R x3 I13))))))))) ∧ (¬ z3 = 0 → (Cl Γ m_X6_byteAt [vR 1, vI (I4 1 4)] P I4 (ri P (fun (z14 : Int) (I15 : MM) => (Cl Γ m_X6_min [vI 1000000, vI (((10 * x3) + z14) - 48)] P I15 (ri P (fun (z16 : Int) (I17 : MM) => (∀ I18 : MM, I18 = up2 I17 1 4 ((I17 1 4) + 1) → XM Γ m_X6_number 0 0 41 [(0, vR 1), (1, vI x1), (2, vI x2), (3, vI z16)] [] P I18 (ri P R))))))))))))))))) :
    XM Γ m_X6_number 0 0 41 [(0, vR 1), (1, vI x1), (2, vI x2), (3, vI x3)] [] P I (ri P R) := by
  refine x_aload_n (pc := 41) 0 dX6_number_41 rfl ?_
  refine x_aload_n (pc := 42) 0 dX6_number_42 rfl ?_
  refine x_getI (pc := 43) dX6_number_43 FC6 4 (by decide) rfl fl_X6_60 (LM_ob hM) ?_
  refine x_Vi (μ := m_X6_number) (pc := 46) dX6_number_46 h k_X6_byteAt ml_X6_63 ⟨Nat.le_of_ble_eq_true rfl, Nat.le_of_ble_eq_true rfl⟩ ⟨rfl, rfl⟩ ⟨Nat.zero_le _, Nat.zero_le _⟩ rfl (LM_ob hM) rfl (Nat.le_of_ble_eq_true rfl) _ rfl (fun z1 I2 h => ?_)
  refine x_Si (μ := m_X6_number) (pc := 49) dX6_number_49 h k_X6_isDigit ml_X6_98 ⟨Nat.le_of_ble_eq_true rfl, Nat.le_of_ble_eq_true rfl⟩ ⟨rfl, rfl⟩ ⟨Nat.zero_le _, Nat.zero_le _⟩ rfl (Nat.le_of_ble_eq_true rfl) _ rfl (fun z3 I4 h => ?_)
  obtain ⟨hr5, h⟩ := h
  obtain ⟨hA6, hB7⟩ := h
  refine x_if_eq (pc := 52) 90 dX6_number_52 (by decide) hr5 (fun hc => ?_) (fun hc => ?_)
  · have h := hA6 hc
    refine x_iload_n (pc := 90) 3 dX6_number_90 rfl ?_
    refine x_iload_n (pc := 91) 1 dX6_number_91 rfl ?_
    refine x_iload_n (pc := 92) 2 dX6_number_92 rfl ?_
    refine x_Si (μ := m_X6_number) (pc := 93) dX6_number_93 h k_X6_in ml_X6_73 ⟨Nat.le_of_ble_eq_true rfl, Nat.le_of_ble_eq_true rfl⟩ ⟨rfl, rfl⟩ ⟨Nat.zero_le _, Nat.zero_le _⟩ rfl (Nat.le_of_ble_eq_true rfl) _ rfl (fun z8 I9 h => ?_)
    obtain ⟨hr10, h⟩ := h
    obtain ⟨hA11, hB12⟩ := h
    refine x_if_ne (pc := 96) 109 dX6_number_96 (by decide) hr10 (fun hc => ?_) (fun hc => ?_)
    · have h := hA11 hc
      refine x_iload_n (pc := 109) 3 dX6_number_109 rfl ?_
      exact x_iret (pc := 110) dX6_number_110 rfl (Nat.le_refl _) (Nat.le_refl _) ⟨_, rfl, rfl, h⟩
    · have h := hB12 hc
      refine x_aload_n (pc := 99) 0 dX6_number_99 rfl ?_
      refine x_bipush (pc := 100) dX6_number_100 rfl ?_
      refine x_aload_n (pc := 102) 0 dX6_number_102 rfl ?_
      refine x_getI (pc := 103) dX6_number_103 FC6 13 (by decide) rfl fl_X6_102 (LM_ob hM) ?_
      refine x_Vv (μ := m_X6_number) (pc := 106) dX6_number_106 h k_X6_report ml_X6_94 ⟨Nat.le_of_ble_eq_true rfl, Nat.le_of_ble_eq_true rfl⟩ ⟨rfl, rfl⟩ ⟨Nat.zero_le _, Nat.zero_le _⟩ rfl (LM_ob hM) rfl (Nat.le_of_ble_eq_true rfl) _ rfl (fun I13 h => ?_)
      refine x_iload_n (pc := 109) 3 dX6_number_109 rfl ?_
      exact x_iret (pc := 110) dX6_number_110 rfl (Nat.le_refl _) (Nat.le_refl _) ⟨_, rfl, rfl, h⟩
  · have h := hB7 hc
    refine x_ldc (pc := 55) (1000000) dX6_number_55 kc_X6_105 ?_
    refine x_bipush (pc := 57) dX6_number_57 rfl ?_
    refine x_iload_n (pc := 59) 3 dX6_number_59 rfl ?_
    refine x_imul (pc := 60) dX6_number_60 ?_
    refine x_aload_n (pc := 61) 0 dX6_number_61 rfl ?_
    refine x_aload_n (pc := 62) 0 dX6_number_62 rfl ?_
    refine x_getI (pc := 63) dX6_number_63 FC6 4 (by decide) rfl fl_X6_60 (LM_ob hM) ?_
    refine x_Vi (μ := m_X6_number) (pc := 66) dX6_number_66 h k_X6_byteAt ml_X6_63 ⟨Nat.le_of_ble_eq_true rfl, Nat.le_of_ble_eq_true rfl⟩ ⟨rfl, rfl⟩ ⟨Nat.zero_le _, Nat.zero_le _⟩ rfl (LM_ob hM) rfl (Nat.le_of_ble_eq_true rfl) _ rfl (fun z14 I15 h => ?_)
    refine x_iadd (pc := 69) dX6_number_69 ?_
    refine x_bipush (pc := 70) dX6_number_70 rfl ?_
    refine x_isub (pc := 72) dX6_number_72 ?_
    refine x_Si (μ := m_X6_number) (pc := 73) dX6_number_73 h k_X6_min ml_X6_106 ⟨Nat.le_of_ble_eq_true rfl, Nat.le_of_ble_eq_true rfl⟩ ⟨rfl, rfl⟩ ⟨Nat.zero_le _, Nat.zero_le _⟩ rfl (Nat.le_of_ble_eq_true rfl) _ rfl (fun z16 I17 h => ?_)
    refine x_istore_n (pc := 76) (al' := [(0, vR 1), (1, vI x1), (2, vI x2), (3, vI z16)]) dX6_number_76 rfl rfl (Nat.le_of_ble_eq_true rfl) ?_
    refine x_aload_n (pc := 77) 0 dX6_number_77 rfl ?_
    refine x_dup (pc := 78) dX6_number_78 rfl ?_
    refine x_getI (pc := 79) dX6_number_79 FC6 4 (by decide) rfl fl_X6_60 (LM_ob hM) ?_
    refine x_iconst (pc := 82) dX6_number_82 ?_
    refine x_iadd (pc := 83) dX6_number_83 ?_
    refine x_putI (pc := 84) dX6_number_84 FC6 4 (by decide) rfl rfl fl_X6_60 (LM_ob hM) ?_
    refine x_nmI (fun I18 eI18 => ?_)
    have h := h I18 eI18
    refine x_goto (pc := 87) 41 dX6_number_87 (by decide) ?_
    exact x_sub [0, 1, 2, 3] rfl h
set_option maxRecDepth 100000 in
set_option maxHeartbeats 4000000 in
theorem t_X6_emit_0 {Γ : GG} {P : MP} {I : MM} {R : MM → Prop} {x1 : Int} (hM : LM Γ P)
    (h : (Cl Γ m_X6_isGood [vR 1] P I (ri P (fun (z1 : Int) (I2 : MM) => (inR z1) ∧ ((z1 ≠ 0 → (0 ≤ (155 + (I2 4 4))) ∧ ((155 + (I2 4 4)) < 1655) ∧ (∀ I8 : MM, I8 = up2 I2 4 ((155 + (I2 4 4))).toNat x1 → (∀ I9 : MM, I9 = up2 I8 4 4 ((I8 4 4) + 1) → R I9))) ∧ (z1 = 0 → R I2)))))) :
    XM Γ m_X6_emit 0 0 0 [(0, vR 1), (1, vI x1)] [] P I (rv P R) := by
  refine x_aload_n (pc := 0) 0 dX6_emit_0 rfl ?_
  refine x_Vi (μ := m_X6_emit) (pc := 1) dX6_emit_1 h k_X6_isGood ml_X6_77 ⟨Nat.le_of_ble_eq_true rfl, Nat.le_of_ble_eq_true rfl⟩ ⟨rfl, rfl⟩ ⟨Nat.zero_le _, Nat.zero_le _⟩ rfl (LM_ob hM) rfl (Nat.le_of_ble_eq_true rfl) _ rfl (fun z1 I2 h => ?_)
  obtain ⟨hr3, h⟩ := h
  obtain ⟨hA4, hB5⟩ := h
  refine x_if_ne (pc := 4) 8 dX6_emit_4 (by decide) hr3 (fun hc => ?_) (fun hc => ?_)
  · have h := hA4 hc
    refine x_aload_n (pc := 8) 0 dX6_emit_8 rfl ?_
    refine x_getP (pc := 9) dX6_emit_9 FC6 9 (by decide) rfl fl_X6_20 (LM_ob hM) (LM_p9 hM) ?_
    refine x_sipush (pc := 12) dX6_emit_12 rfl ?_
    refine x_aload_n (pc := 15) 0 dX6_emit_15 rfl ?_
    refine x_getP (pc := 16) dX6_emit_16 FC6 9 (by decide) rfl fl_X6_20 (LM_ob hM) (LM_p9 hM) ?_
    refine x_iconst (pc := 19) dX6_emit_19 ?_
    refine x_iald (pc := 20) dX6_emit_20 (LM_a9 hM) (by decide) (by decide) (by decide) ?_
    refine x_iadd (pc := 21) dX6_emit_21 ?_
    refine x_iload_n (pc := 22) 1 dX6_emit_22 rfl ?_
    obtain ⟨hv6, h⟩ := h
    obtain ⟨hv7, h⟩ := h
    refine x_iast (pc := 23) dX6_emit_23 (LM_a9 hM) hv6 hv7 (by decide) ?_
    refine x_nmI (fun I8 eI8 => ?_)
    have h := h I8 eI8
    refine x_aload_n (pc := 24) 0 dX6_emit_24 rfl ?_
    refine x_getP (pc := 25) dX6_emit_25 FC6 9 (by decide) rfl fl_X6_20 (LM_ob hM) (LM_p9 hM) ?_
    refine x_iconst (pc := 28) dX6_emit_28 ?_
    refine x_dup2 (pc := 29) dX6_emit_29 rfl rfl ?_
    refine x_iald (pc := 30) dX6_emit_30 (LM_a9 hM) (by decide) (by decide) (by decide) ?_
    refine x_iconst (pc := 31) dX6_emit_31 ?_
    refine x_iadd (pc := 32) dX6_emit_32 ?_
    refine x_iast (pc := 33) dX6_emit_33 (LM_a9 hM) (by decide) (by decide) (by decide) ?_
    refine x_nmI (fun I9 eI9 => ?_)
    have h := h I9 eI9
    exact x_vret (pc := 34) dX6_emit_34 rfl (Nat.le_refl _) (Nat.le_refl _) ⟨rfl, rfl, h⟩
  · have h := hB5 hc
    exact x_vret (pc := 7) dX6_emit_7 rfl (Nat.le_refl _) (Nat.le_refl _) ⟨rfl, rfl, h⟩
set_option maxRecDepth 100000 in
set_option maxHeartbeats 4000000 in
theorem t_X6_factor_0 {Γ : GG} {P : MP} {I : MM} {R : MM → Prop} {d : Nat} (hM : LM Γ P)
    (h : (Cl Γ m_X6_isGood [vR 1] P I (ri P (fun (z1 : Int) (I2 : MM) => (inR z1) ∧ ((z1 ≠ 0 → (Cl Γ m_X6_next [vR 1] P I2 (ri P (fun (z6 : Int) (I7 : MM) => (inR z6) ∧ ((z6 ≠ 40 → (Cl Γ m_X6_isDigit [vI z6] P I7 (ri P (fun (z11 : Int) (I12 : MM) => (inR z11) ∧ ((z11 = 0 → (Cl Γ m_X6_takeWord [vR 1, vR (500 + 0)] P I12 (ri P (fun (z16 : Int) (I17 : MM) => (inR z16) ∧ ((z16 = 0 → (Cl Γ m_X6_takeWord [vR 1, vR (500 + 2)] P I17 (ri P (fun (z21 : Int) (I22 : MM) => (inR z21) ∧ ((z21 = 0 → (Cl Γ m_X6_takeWord [vR 1, vR (500 + 8)] P I22 (ri P (fun (z26 : Int) (I27 : MM) => (inR z26) ∧ ((z26 = 0 → (Cl Γ m_X6_takeWord [vR 1, vR (500 + 6)] P I27 (ri P (fun (z31 : Int) (I32 : MM) => (inR z31) ∧ ((z31 = 0 → (Cl Γ m_X6_number [vR 1, vI 0, vI 9999] P I32 (ri P (fun (z36 : Int) (I37 : MM) => (Cl Γ m_X6_emit [vR 1, vI 0] P I37 (rv P (fun (I38 : MM) => (Cl Γ m_X6_emit [vR 1, vI z36] P I38 (rv P (fun (I39 : MM) => R I39)))))))))) ∧ (¬ z31 = 0 → (Cl Γ m_X6_emit [vR 1, vI 1] P I32 (rv P (fun (I40 : MM) => (Cl Γ m_X6_emit [vR 1, vI 3] P I40 (rv P (fun (I41 : MM) => R I41)))))))))))) ∧ (¬ z26 = 0 → (Cl Γ m_X6_emit [vR 1, vI 1] P I27 (rv P (fun (I42 : MM) => (Cl Γ m_X6_emit [vR 1, vI 2] P I42 (rv P (fun (I43 : MM) => R I43)))))))))))) ∧ (¬ z21 = 0 → (Cl Γ m_X6_emit [vR 1, vI 1] P I22 (rv P (fun (I44 : MM) => (Cl Γ m_X6_emit [vR 1, vI 1] P I44 (rv P (fun (I45 : MM) => R I45)))))))))))) ∧ (¬ z16 = 0 → (Cl Γ m_X6_emit [vR 1, vI 1] P I17 (rv P (fun (I46 : MM) => (Cl Γ m_X6_emit [vR 1, vI 0] P I46 (rv P (fun (I47 : MM) => R I47)))))))))))) ∧ (¬ z11 = 0 → (Cl Γ m_X6_number [vR 1, vI 0, vI 9999] P I12 (ri P (fun (z48 : Int) (I49 : MM) => (Cl Γ m_X6_emit [vR 1, vI 0] P I49 (rv P (fun (I50 : MM) => (Cl Γ m_X6_emit [vR 1, vI z48] P I50 (rv P (fun (I51 : MM) => R I51))))))))))))))) ∧ (z6 = 40 → (inR (I7 1 14)) ∧ (((I7 1 14) ≠ 4 → (∀ I55 : MM, I55 = up2 I7 1 4 ((I7 1 4) + 1) → (∀ I56 : MM, I56 = up2 I55 1 14 ((I55 1 14) + 1) → (Cl Γ (m_X6_sum d) [vR 1] P I56 (rv P (fun (I57 : MM) => (Cl Γ m_X6_expect [vR 1, vI 41] P I57 (rv P (fun (I58 : MM) => (∀ I59 : MM, I59 = up2 I58 1 14 ((I58 1 14) - 1) → R I59)))))))))) ∧ ((I7 1 14) = 4 → (Cl Γ m_X6_report [vR 1, vI (-5), vI (I7 1 4)] P I7 (rv P (fun (I60 : MM) => (∀ I61 : MM, I61 = up2 I60 1 4 ((I60 1 4) + 1) → (∀ I62 : MM, I62 = up2 I61 1 14 ((I61 1 14) + 1) → (Cl Γ (m_X6_sum d) [vR 1] P I62 (rv P (fun (I63 : MM) => (Cl Γ m_X6_expect [vR 1, vI 41] P I63 (rv P (fun (I64 : MM) => (∀ I65 : MM, I65 = up2 I64 1 14 ((I64 1 14) - 1) → R I65)))))))))))))))))))) ∧ (z1 = 0 → R I2)))))) :
    XM Γ (m_X6_factor (d + 1)) 0 0 0 [(0, vR 1)] [] P I (rv P R) := by
  refine x_aload_n (pc := 0) 0 dX6_factor_0 rfl ?_
  refine x_Vi (μ := (m_X6_factor (d + 1))) (pc := 1) dX6_factor_1 h k_X6_isGood ml_X6_77 ⟨by show 2 + 1 ≤ (3 * (d + 1) + 8); omega, by show 8 + (1 + 11) + 80 ≤ 40 * (3 * (d + 1) + 8); omega⟩ ⟨rfl, rfl⟩ ⟨Nat.zero_le _, Nat.zero_le _⟩ rfl (LM_ob hM) rfl (Nat.le_of_ble_eq_true rfl) _ rfl (fun z1 I2 h => ?_)
  obtain ⟨hr3, h⟩ := h
  obtain ⟨hA4, hB5⟩ := h
  refine x_if_ne (pc := 4) 8 dX6_factor_4 (by decide) hr3 (fun hc => ?_) (fun hc => ?_)
  · have h := hA4 hc
    refine x_aload_n (pc := 8) 0 dX6_factor_8 rfl ?_
    refine x_Vi (μ := (m_X6_factor (d + 1))) (pc := 9) dX6_factor_9 h k_X6_next ml_X6_81 ⟨by show 3 + 1 ≤ (3 * (d + 1) + 8); omega, by show 8 + (1 + 11) + 120 ≤ 40 * (3 * (d + 1) + 8); omega⟩ ⟨rfl, rfl⟩ ⟨Nat.zero_le _, Nat.zero_le _⟩ rfl (LM_ob hM) rfl (Nat.le_of_ble_eq_true rfl) _ rfl (fun z6 I7 h => ?_)
    refine x_istore_n (pc := 12) (al' := [(0, vR 1), (1, vI z6)]) dX6_factor_12 rfl rfl (Nat.le_of_ble_eq_true rfl) ?_
    refine x_iload_n (pc := 13) 1 dX6_factor_13 rfl ?_
    refine x_bipush (pc := 14) dX6_factor_14 rfl ?_
    obtain ⟨hr8, h⟩ := h
    obtain ⟨hA9, hB10⟩ := h
    refine x_icmp_ne (pc := 16) 78 dX6_factor_16 (by decide) hr8 ⟨by decide, by decide⟩ (fun hc => ?_) (fun hc => ?_)
    · have h := hA9 hc
      refine x_iload_n (pc := 78) 1 dX6_factor_78 rfl ?_
      refine x_Si (μ := (m_X6_factor (d + 1))) (pc := 79) dX6_factor_79 h k_X6_isDigit ml_X6_98 ⟨by show 3 + 1 ≤ (3 * (d + 1) + 8); omega, by show 8 + (1 + 11) + 120 ≤ 40 * (3 * (d + 1) + 8); omega⟩ ⟨rfl, rfl⟩ ⟨Nat.zero_le _, Nat.zero_le _⟩ rfl (Nat.le_of_ble_eq_true rfl) _ rfl (fun z11 I12 h => ?_)
      obtain ⟨hr13, h⟩ := h
      obtain ⟨hA14, hB15⟩ := h
      refine x_if_eq (pc := 82) 89 dX6_factor_82 (by decide) hr13 (fun hc => ?_) (fun hc => ?_)
      · have h := hA14 hc
        refine x_aload_n (pc := 89) 0 dX6_factor_89 rfl ?_
        refine x_ldcS (pc := 90) "completion" 0 dX6_factor_90 oc_X6_120 ?_
        refine x_Vi (μ := (m_X6_factor (d + 1))) (pc := 92) dX6_factor_92 h k_X6_takeWord ml_X6_122 ⟨by show 7 + 1 ≤ (3 * (d + 1) + 8); omega, by show 8 + (3 + 11) + 280 ≤ 40 * (3 * (d + 1) + 8); omega⟩ ⟨rfl, rfl⟩ ⟨Nat.zero_le _, Nat.zero_le _⟩ rfl (LM_ob hM) rfl (Nat.le_of_ble_eq_true rfl) _ rfl (fun z16 I17 h => ?_)
        obtain ⟨hr18, h⟩ := h
        obtain ⟨hA19, hB20⟩ := h
        refine x_if_eq (pc := 95) 102 dX6_factor_95 (by decide) hr18 (fun hc => ?_) (fun hc => ?_)
        · have h := hA19 hc
          refine x_aload_n (pc := 102) 0 dX6_factor_102 rfl ?_
          refine x_ldcS (pc := 103) "due" 2 dX6_factor_103 oc_X6_126 ?_
          refine x_Vi (μ := (m_X6_factor (d + 1))) (pc := 105) dX6_factor_105 h k_X6_takeWord ml_X6_122 ⟨by show 7 + 1 ≤ (3 * (d + 1) + 8); omega, by show 8 + (3 + 11) + 280 ≤ 40 * (3 * (d + 1) + 8); omega⟩ ⟨rfl, rfl⟩ ⟨Nat.zero_le _, Nat.zero_le _⟩ rfl (LM_ob hM) rfl (Nat.le_of_ble_eq_true rfl) _ rfl (fun z21 I22 h => ?_)
          obtain ⟨hr23, h⟩ := h
          obtain ⟨hA24, hB25⟩ := h
          refine x_if_eq (pc := 108) 115 dX6_factor_108 (by decide) hr23 (fun hc => ?_) (fun hc => ?_)
          · have h := hA24 hc
            refine x_aload_n (pc := 115) 0 dX6_factor_115 rfl ?_
            refine x_ldcS (pc := 116) "weight" 8 dX6_factor_116 oc_X6_128 ?_
            refine x_Vi (μ := (m_X6_factor (d + 1))) (pc := 118) dX6_factor_118 h k_X6_takeWord ml_X6_122 ⟨by show 7 + 1 ≤ (3 * (d + 1) + 8); omega, by show 8 + (3 + 11) + 280 ≤ 40 * (3 * (d + 1) + 8); omega⟩ ⟨rfl, rfl⟩ ⟨Nat.zero_le _, Nat.zero_le _⟩ rfl (LM_ob hM) rfl (Nat.le_of_ble_eq_true rfl) _ rfl (fun z26 I27 h => ?_)
            obtain ⟨hr28, h⟩ := h
            obtain ⟨hA29, hB30⟩ := h
            refine x_if_eq (pc := 121) 128 dX6_factor_121 (by decide) hr28 (fun hc => ?_) (fun hc => ?_)
            · have h := hA29 hc
              refine x_aload_n (pc := 128) 0 dX6_factor_128 rfl ?_
              refine x_ldcS (pc := 129) "release" 6 dX6_factor_129 oc_X6_130 ?_
              refine x_Vi (μ := (m_X6_factor (d + 1))) (pc := 131) dX6_factor_131 h k_X6_takeWord ml_X6_122 ⟨by show 7 + 1 ≤ (3 * (d + 1) + 8); omega, by show 8 + (3 + 11) + 280 ≤ 40 * (3 * (d + 1) + 8); omega⟩ ⟨rfl, rfl⟩ ⟨Nat.zero_le _, Nat.zero_le _⟩ rfl (LM_ob hM) rfl (Nat.le_of_ble_eq_true rfl) _ rfl (fun z31 I32 h => ?_)
              obtain ⟨hr33, h⟩ := h
              obtain ⟨hA34, hB35⟩ := h
              refine x_if_eq (pc := 134) 141 dX6_factor_134 (by decide) hr33 (fun hc => ?_) (fun hc => ?_)
              · have h := hA34 hc
                refine x_iconst (pc := 141) dX6_factor_141 ?_
                refine x_istore_n (pc := 142) (al' := [(0, vR 1), (1, vI z6), (2, vI (-1))]) dX6_factor_142 rfl rfl (Nat.le_of_ble_eq_true rfl) ?_
                refine x_iload_n (pc := 143) 2 dX6_factor_143 rfl ?_
                refine x_if_ge (pc := 144) 158 dX6_factor_144 (by decide) ⟨by decide, by decide⟩ (fun hc => absurd hc (by decide)) (fun hc => ?_)
                refine x_aload_n (pc := 147) 0 dX6_factor_147 rfl ?_
                refine x_iconst (pc := 148) dX6_factor_148 ?_
                refine x_sipush (pc := 149) dX6_factor_149 rfl ?_
                refine x_Vi (μ := (m_X6_factor (d + 1))) (pc := 152) dX6_factor_152 h k_X6_number ml_X6_132 ⟨by show 4 + 1 ≤ (3 * (d + 1) + 8); omega, by show 8 + (4 + 11) + 160 ≤ 40 * (3 * (d + 1) + 8); omega⟩ ⟨rfl, rfl⟩ ⟨Nat.zero_le _, Nat.zero_le _⟩ rfl (LM_ob hM) rfl (Nat.le_of_ble_eq_true rfl) _ rfl (fun z36 I37 h => ?_)
                refine x_goto (pc := 155) 159 dX6_factor_155 (by decide) ?_
                refine x_istore_n (pc := 159) (al' := [(0, vR 1), (1, vI z6), (2, vI (-1)), (3, vI z36)]) dX6_factor_159 rfl rfl (Nat.le_of_ble_eq_true rfl) ?_
                refine x_aload_n (pc := 160) 0 dX6_factor_160 rfl ?_
                refine x_iload_n (pc := 161) 2 dX6_factor_161 rfl ?_
                refine x_if_ge (pc := 162) 169 dX6_factor_162 (by decide) ⟨by decide, by decide⟩ (fun hc => absurd hc (by decide)) (fun hc => ?_)
                refine x_iconst (pc := 165) dX6_factor_165 ?_
                refine x_goto (pc := 166) 170 dX6_factor_166 (by decide) ?_
                refine x_Vv (μ := (m_X6_factor (d + 1))) (pc := 170) dX6_factor_170 h k_X6_emit ml_X6_135 ⟨by show 3 + 1 ≤ (3 * (d + 1) + 8); omega, by show 8 + (2 + 11) + 120 ≤ 40 * (3 * (d + 1) + 8); omega⟩ ⟨rfl, rfl⟩ ⟨Nat.zero_le _, Nat.zero_le _⟩ rfl (LM_ob hM) rfl (Nat.le_of_ble_eq_true rfl) _ rfl (fun I38 h => ?_)
                refine x_aload_n (pc := 173) 0 dX6_factor_173 rfl ?_
                refine x_iload_n (pc := 174) 3 dX6_factor_174 rfl ?_
                refine x_Vv (μ := (m_X6_factor (d + 1))) (pc := 175) dX6_factor_175 h k_X6_emit ml_X6_135 ⟨by show 3 + 1 ≤ (3 * (d + 1) + 8); omega, by show 8 + (2 + 11) + 120 ≤ 40 * (3 * (d + 1) + 8); omega⟩ ⟨rfl, rfl⟩ ⟨Nat.zero_le _, Nat.zero_le _⟩ rfl (LM_ob hM) rfl (Nat.le_of_ble_eq_true rfl) _ rfl (fun I39 h => ?_)
                exact x_vret (pc := 178) dX6_factor_178 rfl (Nat.le_refl _) (Nat.le_refl _) ⟨rfl, rfl, h⟩
              · have h := hB35 hc
                refine x_iconst (pc := 137) dX6_factor_137 ?_
                refine x_goto (pc := 138) 142 dX6_factor_138 (by decide) ?_
                refine x_istore_n (pc := 142) (al' := [(0, vR 1), (1, vI z6), (2, vI 3)]) dX6_factor_142 rfl rfl (Nat.le_of_ble_eq_true rfl) ?_
                refine x_iload_n (pc := 143) 2 dX6_factor_143 rfl ?_
                refine x_if_ge (pc := 144) 158 dX6_factor_144 (by decide) ⟨by decide, by decide⟩ (fun hc => ?_) (fun hc => absurd hc (by decide))
                refine x_iload_n (pc := 158) 2 dX6_factor_158 rfl ?_
                refine x_istore_n (pc := 159) (al' := [(0, vR 1), (1, vI z6), (2, vI 3), (3, vI 3)]) dX6_factor_159 rfl rfl (Nat.le_of_ble_eq_true rfl) ?_
                refine x_aload_n (pc := 160) 0 dX6_factor_160 rfl ?_
                refine x_iload_n (pc := 161) 2 dX6_factor_161 rfl ?_
                refine x_if_ge (pc := 162) 169 dX6_factor_162 (by decide) ⟨by decide, by decide⟩ (fun hc => ?_) (fun hc => absurd hc (by decide))
                refine x_iconst (pc := 169) dX6_factor_169 ?_
                refine x_Vv (μ := (m_X6_factor (d + 1))) (pc := 170) dX6_factor_170 h k_X6_emit ml_X6_135 ⟨by show 3 + 1 ≤ (3 * (d + 1) + 8); omega, by show 8 + (2 + 11) + 120 ≤ 40 * (3 * (d + 1) + 8); omega⟩ ⟨rfl, rfl⟩ ⟨Nat.zero_le _, Nat.zero_le _⟩ rfl (LM_ob hM) rfl (Nat.le_of_ble_eq_true rfl) _ rfl (fun I40 h => ?_)
                refine x_aload_n (pc := 173) 0 dX6_factor_173 rfl ?_
                refine x_iload_n (pc := 174) 3 dX6_factor_174 rfl ?_
                refine x_Vv (μ := (m_X6_factor (d + 1))) (pc := 175) dX6_factor_175 h k_X6_emit ml_X6_135 ⟨by show 3 + 1 ≤ (3 * (d + 1) + 8); omega, by show 8 + (2 + 11) + 120 ≤ 40 * (3 * (d + 1) + 8); omega⟩ ⟨rfl, rfl⟩ ⟨Nat.zero_le _, Nat.zero_le _⟩ rfl (LM_ob hM) rfl (Nat.le_of_ble_eq_true rfl) _ rfl (fun I41 h => ?_)
                exact x_vret (pc := 178) dX6_factor_178 rfl (Nat.le_refl _) (Nat.le_refl _) ⟨rfl, rfl, h⟩
            · have h := hB30 hc
              refine x_iconst (pc := 124) dX6_factor_124 ?_
              refine x_goto (pc := 125) 142 dX6_factor_125 (by decide) ?_
              refine x_istore_n (pc := 142) (al' := [(0, vR 1), (1, vI z6), (2, vI 2)]) dX6_factor_142 rfl rfl (Nat.le_of_ble_eq_true rfl) ?_
              refine x_iload_n (pc := 143) 2 dX6_factor_143 rfl ?_
              refine x_if_ge (pc := 144) 158 dX6_factor_144 (by decide) ⟨by decide, by decide⟩ (fun hc => ?_) (fun hc => absurd hc (by decide))
              refine x_iload_n (pc := 158) 2 dX6_factor_158 rfl ?_
              refine x_istore_n (pc := 159) (al' := [(0, vR 1), (1, vI z6), (2, vI 2), (3, vI 2)]) dX6_factor_159 rfl rfl (Nat.le_of_ble_eq_true rfl) ?_
              refine x_aload_n (pc := 160) 0 dX6_factor_160 rfl ?_
              refine x_iload_n (pc := 161) 2 dX6_factor_161 rfl ?_
              refine x_if_ge (pc := 162) 169 dX6_factor_162 (by decide) ⟨by decide, by decide⟩ (fun hc => ?_) (fun hc => absurd hc (by decide))
              refine x_iconst (pc := 169) dX6_factor_169 ?_
              refine x_Vv (μ := (m_X6_factor (d + 1))) (pc := 170) dX6_factor_170 h k_X6_emit ml_X6_135 ⟨by show 3 + 1 ≤ (3 * (d + 1) + 8); omega, by show 8 + (2 + 11) + 120 ≤ 40 * (3 * (d + 1) + 8); omega⟩ ⟨rfl, rfl⟩ ⟨Nat.zero_le _, Nat.zero_le _⟩ rfl (LM_ob hM) rfl (Nat.le_of_ble_eq_true rfl) _ rfl (fun I42 h => ?_)
              refine x_aload_n (pc := 173) 0 dX6_factor_173 rfl ?_
              refine x_iload_n (pc := 174) 3 dX6_factor_174 rfl ?_
              refine x_Vv (μ := (m_X6_factor (d + 1))) (pc := 175) dX6_factor_175 h k_X6_emit ml_X6_135 ⟨by show 3 + 1 ≤ (3 * (d + 1) + 8); omega, by show 8 + (2 + 11) + 120 ≤ 40 * (3 * (d + 1) + 8); omega⟩ ⟨rfl, rfl⟩ ⟨Nat.zero_le _, Nat.zero_le _⟩ rfl (LM_ob hM) rfl (Nat.le_of_ble_eq_true rfl) _ rfl (fun I43 h => ?_)
              exact x_vret (pc := 178) dX6_factor_178 rfl (Nat.le_refl _) (Nat.le_refl _) ⟨rfl, rfl, h⟩
          · have h := hB25 hc
            refine x_iconst (pc := 111) dX6_factor_111 ?_
            refine x_goto (pc := 112) 142 dX6_factor_112 (by decide) ?_
            refine x_istore_n (pc := 142) (al' := [(0, vR 1), (1, vI z6), (2, vI 1)]) dX6_factor_142 rfl rfl (Nat.le_of_ble_eq_true rfl) ?_
            refine x_iload_n (pc := 143) 2 dX6_factor_143 rfl ?_
            refine x_if_ge (pc := 144) 158 dX6_factor_144 (by decide) ⟨by decide, by decide⟩ (fun hc => ?_) (fun hc => absurd hc (by decide))
            refine x_iload_n (pc := 158) 2 dX6_factor_158 rfl ?_
            refine x_istore_n (pc := 159) (al' := [(0, vR 1), (1, vI z6), (2, vI 1), (3, vI 1)]) dX6_factor_159 rfl rfl (Nat.le_of_ble_eq_true rfl) ?_
            refine x_aload_n (pc := 160) 0 dX6_factor_160 rfl ?_
            refine x_iload_n (pc := 161) 2 dX6_factor_161 rfl ?_
            refine x_if_ge (pc := 162) 169 dX6_factor_162 (by decide) ⟨by decide, by decide⟩ (fun hc => ?_) (fun hc => absurd hc (by decide))
            refine x_iconst (pc := 169) dX6_factor_169 ?_
            refine x_Vv (μ := (m_X6_factor (d + 1))) (pc := 170) dX6_factor_170 h k_X6_emit ml_X6_135 ⟨by show 3 + 1 ≤ (3 * (d + 1) + 8); omega, by show 8 + (2 + 11) + 120 ≤ 40 * (3 * (d + 1) + 8); omega⟩ ⟨rfl, rfl⟩ ⟨Nat.zero_le _, Nat.zero_le _⟩ rfl (LM_ob hM) rfl (Nat.le_of_ble_eq_true rfl) _ rfl (fun I44 h => ?_)
            refine x_aload_n (pc := 173) 0 dX6_factor_173 rfl ?_
            refine x_iload_n (pc := 174) 3 dX6_factor_174 rfl ?_
            refine x_Vv (μ := (m_X6_factor (d + 1))) (pc := 175) dX6_factor_175 h k_X6_emit ml_X6_135 ⟨by show 3 + 1 ≤ (3 * (d + 1) + 8); omega, by show 8 + (2 + 11) + 120 ≤ 40 * (3 * (d + 1) + 8); omega⟩ ⟨rfl, rfl⟩ ⟨Nat.zero_le _, Nat.zero_le _⟩ rfl (LM_ob hM) rfl (Nat.le_of_ble_eq_true rfl) _ rfl (fun I45 h => ?_)
            exact x_vret (pc := 178) dX6_factor_178 rfl (Nat.le_refl _) (Nat.le_refl _) ⟨rfl, rfl, h⟩
        · have h := hB20 hc
          refine x_iconst (pc := 98) dX6_factor_98 ?_
          refine x_goto (pc := 99) 142 dX6_factor_99 (by decide) ?_
          refine x_istore_n (pc := 142) (al' := [(0, vR 1), (1, vI z6), (2, vI 0)]) dX6_factor_142 rfl rfl (Nat.le_of_ble_eq_true rfl) ?_
          refine x_iload_n (pc := 143) 2 dX6_factor_143 rfl ?_
          refine x_if_ge (pc := 144) 158 dX6_factor_144 (by decide) ⟨by decide, by decide⟩ (fun hc => ?_) (fun hc => absurd hc (by decide))
          refine x_iload_n (pc := 158) 2 dX6_factor_158 rfl ?_
          refine x_istore_n (pc := 159) (al' := [(0, vR 1), (1, vI z6), (2, vI 0), (3, vI 0)]) dX6_factor_159 rfl rfl (Nat.le_of_ble_eq_true rfl) ?_
          refine x_aload_n (pc := 160) 0 dX6_factor_160 rfl ?_
          refine x_iload_n (pc := 161) 2 dX6_factor_161 rfl ?_
          refine x_if_ge (pc := 162) 169 dX6_factor_162 (by decide) ⟨by decide, by decide⟩ (fun hc => ?_) (fun hc => absurd hc (by decide))
          refine x_iconst (pc := 169) dX6_factor_169 ?_
          refine x_Vv (μ := (m_X6_factor (d + 1))) (pc := 170) dX6_factor_170 h k_X6_emit ml_X6_135 ⟨by show 3 + 1 ≤ (3 * (d + 1) + 8); omega, by show 8 + (2 + 11) + 120 ≤ 40 * (3 * (d + 1) + 8); omega⟩ ⟨rfl, rfl⟩ ⟨Nat.zero_le _, Nat.zero_le _⟩ rfl (LM_ob hM) rfl (Nat.le_of_ble_eq_true rfl) _ rfl (fun I46 h => ?_)
          refine x_aload_n (pc := 173) 0 dX6_factor_173 rfl ?_
          refine x_iload_n (pc := 174) 3 dX6_factor_174 rfl ?_
          refine x_Vv (μ := (m_X6_factor (d + 1))) (pc := 175) dX6_factor_175 h k_X6_emit ml_X6_135 ⟨by show 3 + 1 ≤ (3 * (d + 1) + 8); omega, by show 8 + (2 + 11) + 120 ≤ 40 * (3 * (d + 1) + 8); omega⟩ ⟨rfl, rfl⟩ ⟨Nat.zero_le _, Nat.zero_le _⟩ rfl (LM_ob hM) rfl (Nat.le_of_ble_eq_true rfl) _ rfl (fun I47 h => ?_)
          exact x_vret (pc := 178) dX6_factor_178 rfl (Nat.le_refl _) (Nat.le_refl _) ⟨rfl, rfl, h⟩
      · have h := hB15 hc
        refine x_iconst (pc := 85) dX6_factor_85 ?_
        refine x_goto (pc := 86) 142 dX6_factor_86 (by decide) ?_
        refine x_istore_n (pc := 142) (al' := [(0, vR 1), (1, vI z6), (2, vI (-1))]) dX6_factor_142 rfl rfl (Nat.le_of_ble_eq_true rfl) ?_
        refine x_iload_n (pc := 143) 2 dX6_factor_143 rfl ?_
        refine x_if_ge (pc := 144) 158 dX6_factor_144 (by decide) ⟨by decide, by decide⟩ (fun hc => absurd hc (by decide)) (fun hc => ?_)
        refine x_aload_n (pc := 147) 0 dX6_factor_147 rfl ?_
        refine x_iconst (pc := 148) dX6_factor_148 ?_
        refine x_sipush (pc := 149) dX6_factor_149 rfl ?_
        refine x_Vi (μ := (m_X6_factor (d + 1))) (pc := 152) dX6_factor_152 h k_X6_number ml_X6_132 ⟨by show 4 + 1 ≤ (3 * (d + 1) + 8); omega, by show 8 + (4 + 11) + 160 ≤ 40 * (3 * (d + 1) + 8); omega⟩ ⟨rfl, rfl⟩ ⟨Nat.zero_le _, Nat.zero_le _⟩ rfl (LM_ob hM) rfl (Nat.le_of_ble_eq_true rfl) _ rfl (fun z48 I49 h => ?_)
        refine x_goto (pc := 155) 159 dX6_factor_155 (by decide) ?_
        refine x_istore_n (pc := 159) (al' := [(0, vR 1), (1, vI z6), (2, vI (-1)), (3, vI z48)]) dX6_factor_159 rfl rfl (Nat.le_of_ble_eq_true rfl) ?_
        refine x_aload_n (pc := 160) 0 dX6_factor_160 rfl ?_
        refine x_iload_n (pc := 161) 2 dX6_factor_161 rfl ?_
        refine x_if_ge (pc := 162) 169 dX6_factor_162 (by decide) ⟨by decide, by decide⟩ (fun hc => absurd hc (by decide)) (fun hc => ?_)
        refine x_iconst (pc := 165) dX6_factor_165 ?_
        refine x_goto (pc := 166) 170 dX6_factor_166 (by decide) ?_
        refine x_Vv (μ := (m_X6_factor (d + 1))) (pc := 170) dX6_factor_170 h k_X6_emit ml_X6_135 ⟨by show 3 + 1 ≤ (3 * (d + 1) + 8); omega, by show 8 + (2 + 11) + 120 ≤ 40 * (3 * (d + 1) + 8); omega⟩ ⟨rfl, rfl⟩ ⟨Nat.zero_le _, Nat.zero_le _⟩ rfl (LM_ob hM) rfl (Nat.le_of_ble_eq_true rfl) _ rfl (fun I50 h => ?_)
        refine x_aload_n (pc := 173) 0 dX6_factor_173 rfl ?_
        refine x_iload_n (pc := 174) 3 dX6_factor_174 rfl ?_
        refine x_Vv (μ := (m_X6_factor (d + 1))) (pc := 175) dX6_factor_175 h k_X6_emit ml_X6_135 ⟨by show 3 + 1 ≤ (3 * (d + 1) + 8); omega, by show 8 + (2 + 11) + 120 ≤ 40 * (3 * (d + 1) + 8); omega⟩ ⟨rfl, rfl⟩ ⟨Nat.zero_le _, Nat.zero_le _⟩ rfl (LM_ob hM) rfl (Nat.le_of_ble_eq_true rfl) _ rfl (fun I51 h => ?_)
        exact x_vret (pc := 178) dX6_factor_178 rfl (Nat.le_refl _) (Nat.le_refl _) ⟨rfl, rfl, h⟩
    · have h := hB10 hc
      refine x_aload_n (pc := 19) 0 dX6_factor_19 rfl ?_
      refine x_getI (pc := 20) dX6_factor_20 FC6 14 (by decide) rfl fl_X6_110 (LM_ob hM) ?_
      refine x_iconst (pc := 23) dX6_factor_23 ?_
      obtain ⟨hr52, h⟩ := h
      obtain ⟨hA53, hB54⟩ := h
      refine x_icmp_ne (pc := 24) 37 dX6_factor_24 (by decide) hr52 ⟨by decide, by decide⟩ (fun hc => ?_) (fun hc => ?_)
      · have h := hA53 hc
        refine x_aload_n (pc := 37) 0 dX6_factor_37 rfl ?_
        refine x_dup (pc := 38) dX6_factor_38 rfl ?_
        refine x_getI (pc := 39) dX6_factor_39 FC6 4 (by decide) rfl fl_X6_60 (LM_ob hM) ?_
        refine x_iconst (pc := 42) dX6_factor_42 ?_
        refine x_iadd (pc := 43) dX6_factor_43 ?_
        refine x_putI (pc := 44) dX6_factor_44 FC6 4 (by decide) rfl rfl fl_X6_60 (LM_ob hM) ?_
        refine x_nmI (fun I55 eI55 => ?_)
        have h := h I55 eI55
        refine x_aload_n (pc := 47) 0 dX6_factor_47 rfl ?_
        refine x_dup (pc := 48) dX6_factor_48 rfl ?_
        refine x_getI (pc := 49) dX6_factor_49 FC6 14 (by decide) rfl fl_X6_110 (LM_ob hM) ?_
        refine x_iconst (pc := 52) dX6_factor_52 ?_
        refine x_iadd (pc := 53) dX6_factor_53 ?_
        refine x_putI (pc := 54) dX6_factor_54 FC6 14 (by decide) rfl rfl fl_X6_110 (LM_ob hM) ?_
        refine x_nmI (fun I56 eI56 => ?_)
        have h := h I56 eI56
        refine x_aload_n (pc := 57) 0 dX6_factor_57 rfl ?_
        refine x_Vv (μ := (m_X6_factor (d + 1))) (pc := 58) dX6_factor_58 h k_X6_sum ml_X6_113 ⟨by show (3 * d + 10) + 1 ≤ (3 * (d + 1) + 8); omega, by show 8 + (2 + 11) + 40 * (3 * d + 10) ≤ 40 * (3 * (d + 1) + 8); omega⟩ ⟨rfl, rfl⟩ ⟨Nat.zero_le _, Nat.zero_le _⟩ rfl (LM_ob hM) rfl (Nat.le_of_ble_eq_true rfl) _ rfl (fun I57 h => ?_)
        refine x_aload_n (pc := 61) 0 dX6_factor_61 rfl ?_
        refine x_bipush (pc := 62) dX6_factor_62 rfl ?_
        refine x_Vv (μ := (m_X6_factor (d + 1))) (pc := 64) dX6_factor_64 h k_X6_expect ml_X6_116 ⟨by show 4 + 1 ≤ (3 * (d + 1) + 8); omega, by show 8 + (2 + 11) + 160 ≤ 40 * (3 * (d + 1) + 8); omega⟩ ⟨rfl, rfl⟩ ⟨Nat.zero_le _, Nat.zero_le _⟩ rfl (LM_ob hM) rfl (Nat.le_of_ble_eq_true rfl) _ rfl (fun I58 h => ?_)
        refine x_aload_n (pc := 67) 0 dX6_factor_67 rfl ?_
        refine x_dup (pc := 68) dX6_factor_68 rfl ?_
        refine x_getI (pc := 69) dX6_factor_69 FC6 14 (by decide) rfl fl_X6_110 (LM_ob hM) ?_
        refine x_iconst (pc := 72) dX6_factor_72 ?_
        refine x_isub (pc := 73) dX6_factor_73 ?_
        refine x_putI (pc := 74) dX6_factor_74 FC6 14 (by decide) rfl rfl fl_X6_110 (LM_ob hM) ?_
        refine x_nmI (fun I59 eI59 => ?_)
        have h := h I59 eI59
        exact x_vret (pc := 77) dX6_factor_77 rfl (Nat.le_refl _) (Nat.le_refl _) ⟨rfl, rfl, h⟩
      · have h := hB54 hc
        refine x_aload_n (pc := 27) 0 dX6_factor_27 rfl ?_
        refine x_bipush (pc := 28) dX6_factor_28 rfl ?_
        refine x_aload_n (pc := 30) 0 dX6_factor_30 rfl ?_
        refine x_getI (pc := 31) dX6_factor_31 FC6 4 (by decide) rfl fl_X6_60 (LM_ob hM) ?_
        refine x_Vv (μ := (m_X6_factor (d + 1))) (pc := 34) dX6_factor_34 h k_X6_report ml_X6_94 ⟨by show 2 + 1 ≤ (3 * (d + 1) + 8); omega, by show 8 + (3 + 11) + 80 ≤ 40 * (3 * (d + 1) + 8); omega⟩ ⟨rfl, rfl⟩ ⟨Nat.zero_le _, Nat.zero_le _⟩ rfl (LM_ob hM) rfl (Nat.le_of_ble_eq_true rfl) _ rfl (fun I60 h => ?_)
        refine x_aload_n (pc := 37) 0 dX6_factor_37 rfl ?_
        refine x_dup (pc := 38) dX6_factor_38 rfl ?_
        refine x_getI (pc := 39) dX6_factor_39 FC6 4 (by decide) rfl fl_X6_60 (LM_ob hM) ?_
        refine x_iconst (pc := 42) dX6_factor_42 ?_
        refine x_iadd (pc := 43) dX6_factor_43 ?_
        refine x_putI (pc := 44) dX6_factor_44 FC6 4 (by decide) rfl rfl fl_X6_60 (LM_ob hM) ?_
        refine x_nmI (fun I61 eI61 => ?_)
        have h := h I61 eI61
        refine x_aload_n (pc := 47) 0 dX6_factor_47 rfl ?_
        refine x_dup (pc := 48) dX6_factor_48 rfl ?_
        refine x_getI (pc := 49) dX6_factor_49 FC6 14 (by decide) rfl fl_X6_110 (LM_ob hM) ?_
        refine x_iconst (pc := 52) dX6_factor_52 ?_
        refine x_iadd (pc := 53) dX6_factor_53 ?_
        refine x_putI (pc := 54) dX6_factor_54 FC6 14 (by decide) rfl rfl fl_X6_110 (LM_ob hM) ?_
        refine x_nmI (fun I62 eI62 => ?_)
        have h := h I62 eI62
        refine x_aload_n (pc := 57) 0 dX6_factor_57 rfl ?_
        refine x_Vv (μ := (m_X6_factor (d + 1))) (pc := 58) dX6_factor_58 h k_X6_sum ml_X6_113 ⟨by show (3 * d + 10) + 1 ≤ (3 * (d + 1) + 8); omega, by show 8 + (2 + 11) + 40 * (3 * d + 10) ≤ 40 * (3 * (d + 1) + 8); omega⟩ ⟨rfl, rfl⟩ ⟨Nat.zero_le _, Nat.zero_le _⟩ rfl (LM_ob hM) rfl (Nat.le_of_ble_eq_true rfl) _ rfl (fun I63 h => ?_)
        refine x_aload_n (pc := 61) 0 dX6_factor_61 rfl ?_
        refine x_bipush (pc := 62) dX6_factor_62 rfl ?_
        refine x_Vv (μ := (m_X6_factor (d + 1))) (pc := 64) dX6_factor_64 h k_X6_expect ml_X6_116 ⟨by show 4 + 1 ≤ (3 * (d + 1) + 8); omega, by show 8 + (2 + 11) + 160 ≤ 40 * (3 * (d + 1) + 8); omega⟩ ⟨rfl, rfl⟩ ⟨Nat.zero_le _, Nat.zero_le _⟩ rfl (LM_ob hM) rfl (Nat.le_of_ble_eq_true rfl) _ rfl (fun I64 h => ?_)
        refine x_aload_n (pc := 67) 0 dX6_factor_67 rfl ?_
        refine x_dup (pc := 68) dX6_factor_68 rfl ?_
        refine x_getI (pc := 69) dX6_factor_69 FC6 14 (by decide) rfl fl_X6_110 (LM_ob hM) ?_
        refine x_iconst (pc := 72) dX6_factor_72 ?_
        refine x_isub (pc := 73) dX6_factor_73 ?_
        refine x_putI (pc := 74) dX6_factor_74 FC6 14 (by decide) rfl rfl fl_X6_110 (LM_ob hM) ?_
        refine x_nmI (fun I65 eI65 => ?_)
        have h := h I65 eI65
        exact x_vret (pc := 77) dX6_factor_77 rfl (Nat.le_refl _) (Nat.le_refl _) ⟨rfl, rfl, h⟩
  · have h := hB5 hc
    exact x_vret (pc := 7) dX6_factor_7 rfl (Nat.le_refl _) (Nat.le_refl _) ⟨rfl, rfl, h⟩
set_option maxRecDepth 100000 in
set_option maxHeartbeats 4000000 in
theorem t_X6_term_0 {Γ : GG} {P : MP} {I : MM} {R : MM → Prop} {d : Nat} (hM : LM Γ P)
    (h : (Cl Γ (m_X6_factor d) [vR 1] P I (rv P (fun (I1 : MM) => XM Γ (m_X6_term d) 0 0 4 [(0, vR 1)] [] P I1 (rv P R))))) :
    XM Γ (m_X6_term d) 0 0 0 [(0, vR 1)] [] P I (rv P R) := by
  refine x_aload_n (pc := 0) 0 dX6_term_0 rfl ?_
  refine x_Vv (μ := (m_X6_term d)) (pc := 1) dX6_term_1 h k_X6_factor ml_X6_138 ⟨by show (3 * d + 8) + 1 ≤ (3 * d + 9); omega, by show 8 + (4 + 11) + 40 * (3 * d + 8) ≤ 40 * (3 * d + 9); omega⟩ ⟨rfl, rfl⟩ ⟨Nat.zero_le _, Nat.zero_le _⟩ rfl (LM_ob hM) rfl (Nat.le_of_ble_eq_true rfl) _ rfl (fun I1 h => ?_)
  exact x_sub [0] rfl h
set_option maxRecDepth 100000 in
set_option maxHeartbeats 4000000 in
theorem t_X6_term_4 {Γ : GG} {P : MP} {I : MM} {R : MM → Prop} {d : Nat} (hM : LM Γ P)
    (h : (Cl Γ m_X6_isGood [vR 1] P I (ri P (fun (z1 : Int) (I2 : MM) => (inR z1) ∧ ((z1 = 0 → R I2) ∧ (¬ z1 = 0 → (Cl Γ m_X6_next [vR 1] P I2 (ri P (fun (z6 : Int) (I7 : MM) => (inR z6) ∧ ((z6 = 42 → (Cl Γ m_X6_next [vR 1] P I7 (ri P (fun (z11 : Int) (I12 : MM) => (inR z11) ∧ ((z11 ≠ 42 → (∀ I16 : MM, I16 = up2 I12 1 4 ((I12 1 4) + 1) → (Cl Γ (m_X6_factor d) [vR 1] P I16 (rv P (fun (I17 : MM) => (Cl Γ m_X6_emit [vR 1, vI 5] P I17 (rv P (fun (I18 : MM) => XM Γ (m_X6_term d) 0 0 4 [(0, vR 1)] [] P I18 (rv P R))))))))) ∧ (z11 = 42 → (∀ I19 : MM, I19 = up2 I12 1 4 ((I12 1 4) + 1) → (Cl Γ (m_X6_factor d) [vR 1] P I19 (rv P (fun (I20 : MM) => (Cl Γ m_X6_emit [vR 1, vI 4] P I20 (rv P (fun (I21 : MM) => XM Γ (m_X6_term d) 0 0 4 [(0, vR 1)] [] P I21 (rv P R)))))))))))))) ∧ (¬ z6 = 42 → (Cl Γ m_X6_next [vR 1] P I7 (ri P (fun (z22 : Int) (I23 : MM) => (inR z22) ∧ ((z22 ≠ 47 → R I23) ∧ (z22 = 47 → (Cl Γ m_X6_next [vR 1] P I23 (ri P (fun (z27 : Int) (I28 : MM) => (inR z27) ∧ ((z27 ≠ 42 → (∀ I32 : MM, I32 = up2 I28 1 4 ((I28 1 4) + 1) → (Cl Γ (m_X6_factor d) [vR 1] P I32 (rv P (fun (I33 : MM) => (Cl Γ m_X6_emit [vR 1, vI 5] P I33 (rv P (fun (I34 : MM) => XM Γ (m_X6_term d) 0 0 4 [(0, vR 1)] [] P I34 (rv P R))))))))) ∧ (z27 = 42 → (∀ I35 : MM, I35 = up2 I28 1 4 ((I28 1 4) + 1) → (Cl Γ (m_X6_factor d) [vR 1] P I35 (rv P (fun (I36 : MM) => (Cl Γ m_X6_emit [vR 1, vI 4] P I36 (rv P (fun (I37 : MM) => XM Γ (m_X6_term d) 0 0 4 [(0, vR 1)] [] P I37 (rv P R))))))))))))))))))))))))))))) :
    XM Γ (m_X6_term d) 0 0 4 [(0, vR 1)] [] P I (rv P R) := by
  refine x_aload_n (pc := 4) 0 dX6_term_4 rfl ?_
  refine x_Vi (μ := (m_X6_term d)) (pc := 5) dX6_term_5 h k_X6_isGood ml_X6_77 ⟨by show 2 + 1 ≤ (3 * d + 9); omega, by show 8 + (1 + 11) + 80 ≤ 40 * (3 * d + 9); omega⟩ ⟨rfl, rfl⟩ ⟨Nat.zero_le _, Nat.zero_le _⟩ rfl (LM_ob hM) rfl (Nat.le_of_ble_eq_true rfl) _ rfl (fun z1 I2 h => ?_)
  obtain ⟨hr3, h⟩ := h
  obtain ⟨hA4, hB5⟩ := h
  refine x_if_eq (pc := 8) 74 dX6_term_8 (by decide) hr3 (fun hc => ?_) (fun hc => ?_)
  · have h := hA4 hc
    exact x_vret (pc := 74) dX6_term_74 rfl (Nat.le_refl _) (Nat.le_refl _) ⟨rfl, rfl, h⟩
  · have h := hB5 hc
    refine x_aload_n (pc := 11) 0 dX6_term_11 rfl ?_
    refine x_Vi (μ := (m_X6_term d)) (pc := 12) dX6_term_12 h k_X6_next ml_X6_81 ⟨by show 3 + 1 ≤ (3 * d + 9); omega, by show 8 + (1 + 11) + 120 ≤ 40 * (3 * d + 9); omega⟩ ⟨rfl, rfl⟩ ⟨Nat.zero_le _, Nat.zero_le _⟩ rfl (LM_ob hM) rfl (Nat.le_of_ble_eq_true rfl) _ rfl (fun z6 I7 h => ?_)
    refine x_bipush (pc := 15) dX6_term_15 rfl ?_
    obtain ⟨hr8, h⟩ := h
    obtain ⟨hA9, hB10⟩ := h
    refine x_icmp_eq (pc := 17) 29 dX6_term_17 (by decide) hr8 ⟨by decide, by decide⟩ (fun hc => ?_) (fun hc => ?_)
    · have h := hA9 hc
      refine x_aload_n (pc := 29) 0 dX6_term_29 rfl ?_
      refine x_Vi (μ := (m_X6_term d)) (pc := 30) dX6_term_30 h k_X6_next ml_X6_81 ⟨by show 3 + 1 ≤ (3 * d + 9); omega, by show 8 + (1 + 11) + 120 ≤ 40 * (3 * d + 9); omega⟩ ⟨rfl, rfl⟩ ⟨Nat.zero_le _, Nat.zero_le _⟩ rfl (LM_ob hM) rfl (Nat.le_of_ble_eq_true rfl) _ rfl (fun z11 I12 h => ?_)
      refine x_bipush (pc := 33) dX6_term_33 rfl ?_
      obtain ⟨hr13, h⟩ := h
      obtain ⟨hA14, hB15⟩ := h
      refine x_icmp_ne (pc := 35) 42 dX6_term_35 (by decide) hr13 ⟨by decide, by decide⟩ (fun hc => ?_) (fun hc => ?_)
      · have h := hA14 hc
        refine x_iconst (pc := 42) dX6_term_42 ?_
        refine x_istore_n (pc := 43) (al' := [(0, vR 1), (1, vI 0)]) dX6_term_43 rfl rfl (Nat.le_of_ble_eq_true rfl) ?_
        refine x_aload_n (pc := 44) 0 dX6_term_44 rfl ?_
        refine x_dup (pc := 45) dX6_term_45 rfl ?_
        refine x_getI (pc := 46) dX6_term_46 FC6 4 (by decide) rfl fl_X6_60 (LM_ob hM) ?_
        refine x_iconst (pc := 49) dX6_term_49 ?_
        refine x_iadd (pc := 50) dX6_term_50 ?_
        refine x_putI (pc := 51) dX6_term_51 FC6 4 (by decide) rfl rfl fl_X6_60 (LM_ob hM) ?_
        refine x_nmI (fun I16 eI16 => ?_)
        have h := h I16 eI16
        refine x_aload_n (pc := 54) 0 dX6_term_54 rfl ?_
        refine x_Vv (μ := (m_X6_term d)) (pc := 55) dX6_term_55 h k_X6_factor ml_X6_138 ⟨by show (3 * d + 8) + 1 ≤ (3 * d + 9); omega, by show 8 + (4 + 11) + 40 * (3 * d + 8) ≤ 40 * (3 * d + 9); omega⟩ ⟨rfl, rfl⟩ ⟨Nat.zero_le _, Nat.zero_le _⟩ rfl (LM_ob hM) rfl (Nat.le_of_ble_eq_true rfl) _ rfl (fun I17 h => ?_)
        refine x_aload_n (pc := 58) 0 dX6_term_58 rfl ?_
        refine x_iload_n (pc := 59) 1 dX6_term_59 rfl ?_
        refine x_if_eq (pc := 60) 67 dX6_term_60 (by decide) ⟨by decide, by decide⟩ (fun hc => ?_) (fun hc => absurd hc (by decide))
        refine x_iconst (pc := 67) dX6_term_67 ?_
        refine x_Vv (μ := (m_X6_term d)) (pc := 68) dX6_term_68 h k_X6_emit ml_X6_135 ⟨by show 3 + 1 ≤ (3 * d + 9); omega, by show 8 + (2 + 11) + 120 ≤ 40 * (3 * d + 9); omega⟩ ⟨rfl, rfl⟩ ⟨Nat.zero_le _, Nat.zero_le _⟩ rfl (LM_ob hM) rfl (Nat.le_of_ble_eq_true rfl) _ rfl (fun I18 h => ?_)
        refine x_goto (pc := 71) 4 dX6_term_71 (by decide) ?_
        exact x_sub [0] rfl h
      · have h := hB15 hc
        refine x_iconst (pc := 38) dX6_term_38 ?_
        refine x_goto (pc := 39) 43 dX6_term_39 (by decide) ?_
        refine x_istore_n (pc := 43) (al' := [(0, vR 1), (1, vI 1)]) dX6_term_43 rfl rfl (Nat.le_of_ble_eq_true rfl) ?_
        refine x_aload_n (pc := 44) 0 dX6_term_44 rfl ?_
        refine x_dup (pc := 45) dX6_term_45 rfl ?_
        refine x_getI (pc := 46) dX6_term_46 FC6 4 (by decide) rfl fl_X6_60 (LM_ob hM) ?_
        refine x_iconst (pc := 49) dX6_term_49 ?_
        refine x_iadd (pc := 50) dX6_term_50 ?_
        refine x_putI (pc := 51) dX6_term_51 FC6 4 (by decide) rfl rfl fl_X6_60 (LM_ob hM) ?_
        refine x_nmI (fun I19 eI19 => ?_)
        have h := h I19 eI19
        refine x_aload_n (pc := 54) 0 dX6_term_54 rfl ?_
        refine x_Vv (μ := (m_X6_term d)) (pc := 55) dX6_term_55 h k_X6_factor ml_X6_138 ⟨by show (3 * d + 8) + 1 ≤ (3 * d + 9); omega, by show 8 + (4 + 11) + 40 * (3 * d + 8) ≤ 40 * (3 * d + 9); omega⟩ ⟨rfl, rfl⟩ ⟨Nat.zero_le _, Nat.zero_le _⟩ rfl (LM_ob hM) rfl (Nat.le_of_ble_eq_true rfl) _ rfl (fun I20 h => ?_)
        refine x_aload_n (pc := 58) 0 dX6_term_58 rfl ?_
        refine x_iload_n (pc := 59) 1 dX6_term_59 rfl ?_
        refine x_if_eq (pc := 60) 67 dX6_term_60 (by decide) ⟨by decide, by decide⟩ (fun hc => absurd hc (by decide)) (fun hc => ?_)
        refine x_iconst (pc := 63) dX6_term_63 ?_
        refine x_goto (pc := 64) 68 dX6_term_64 (by decide) ?_
        refine x_Vv (μ := (m_X6_term d)) (pc := 68) dX6_term_68 h k_X6_emit ml_X6_135 ⟨by show 3 + 1 ≤ (3 * d + 9); omega, by show 8 + (2 + 11) + 120 ≤ 40 * (3 * d + 9); omega⟩ ⟨rfl, rfl⟩ ⟨Nat.zero_le _, Nat.zero_le _⟩ rfl (LM_ob hM) rfl (Nat.le_of_ble_eq_true rfl) _ rfl (fun I21 h => ?_)
        refine x_goto (pc := 71) 4 dX6_term_71 (by decide) ?_
        exact x_sub [0] rfl h
    · have h := hB10 hc
      refine x_aload_n (pc := 20) 0 dX6_term_20 rfl ?_
      refine x_Vi (μ := (m_X6_term d)) (pc := 21) dX6_term_21 h k_X6_next ml_X6_81 ⟨by show 3 + 1 ≤ (3 * d + 9); omega, by show 8 + (1 + 11) + 120 ≤ 40 * (3 * d + 9); omega⟩ ⟨rfl, rfl⟩ ⟨Nat.zero_le _, Nat.zero_le _⟩ rfl (LM_ob hM) rfl (Nat.le_of_ble_eq_true rfl) _ rfl (fun z22 I23 h => ?_)
      refine x_bipush (pc := 24) dX6_term_24 rfl ?_
      obtain ⟨hr24, h⟩ := h
      obtain ⟨hA25, hB26⟩ := h
      refine x_icmp_ne (pc := 26) 74 dX6_term_26 (by decide) hr24 ⟨by decide, by decide⟩ (fun hc => ?_) (fun hc => ?_)
      · have h := hA25 hc
        exact x_vret (pc := 74) dX6_term_74 rfl (Nat.le_refl _) (Nat.le_refl _) ⟨rfl, rfl, h⟩
      · have h := hB26 hc
        refine x_aload_n (pc := 29) 0 dX6_term_29 rfl ?_
        refine x_Vi (μ := (m_X6_term d)) (pc := 30) dX6_term_30 h k_X6_next ml_X6_81 ⟨by show 3 + 1 ≤ (3 * d + 9); omega, by show 8 + (1 + 11) + 120 ≤ 40 * (3 * d + 9); omega⟩ ⟨rfl, rfl⟩ ⟨Nat.zero_le _, Nat.zero_le _⟩ rfl (LM_ob hM) rfl (Nat.le_of_ble_eq_true rfl) _ rfl (fun z27 I28 h => ?_)
        refine x_bipush (pc := 33) dX6_term_33 rfl ?_
        obtain ⟨hr29, h⟩ := h
        obtain ⟨hA30, hB31⟩ := h
        refine x_icmp_ne (pc := 35) 42 dX6_term_35 (by decide) hr29 ⟨by decide, by decide⟩ (fun hc => ?_) (fun hc => ?_)
        · have h := hA30 hc
          refine x_iconst (pc := 42) dX6_term_42 ?_
          refine x_istore_n (pc := 43) (al' := [(0, vR 1), (1, vI 0)]) dX6_term_43 rfl rfl (Nat.le_of_ble_eq_true rfl) ?_
          refine x_aload_n (pc := 44) 0 dX6_term_44 rfl ?_
          refine x_dup (pc := 45) dX6_term_45 rfl ?_
          refine x_getI (pc := 46) dX6_term_46 FC6 4 (by decide) rfl fl_X6_60 (LM_ob hM) ?_
          refine x_iconst (pc := 49) dX6_term_49 ?_
          refine x_iadd (pc := 50) dX6_term_50 ?_
          refine x_putI (pc := 51) dX6_term_51 FC6 4 (by decide) rfl rfl fl_X6_60 (LM_ob hM) ?_
          refine x_nmI (fun I32 eI32 => ?_)
          have h := h I32 eI32
          refine x_aload_n (pc := 54) 0 dX6_term_54 rfl ?_
          refine x_Vv (μ := (m_X6_term d)) (pc := 55) dX6_term_55 h k_X6_factor ml_X6_138 ⟨by show (3 * d + 8) + 1 ≤ (3 * d + 9); omega, by show 8 + (4 + 11) + 40 * (3 * d + 8) ≤ 40 * (3 * d + 9); omega⟩ ⟨rfl, rfl⟩ ⟨Nat.zero_le _, Nat.zero_le _⟩ rfl (LM_ob hM) rfl (Nat.le_of_ble_eq_true rfl) _ rfl (fun I33 h => ?_)
          refine x_aload_n (pc := 58) 0 dX6_term_58 rfl ?_
          refine x_iload_n (pc := 59) 1 dX6_term_59 rfl ?_
          refine x_if_eq (pc := 60) 67 dX6_term_60 (by decide) ⟨by decide, by decide⟩ (fun hc => ?_) (fun hc => absurd hc (by decide))
          refine x_iconst (pc := 67) dX6_term_67 ?_
          refine x_Vv (μ := (m_X6_term d)) (pc := 68) dX6_term_68 h k_X6_emit ml_X6_135 ⟨by show 3 + 1 ≤ (3 * d + 9); omega, by show 8 + (2 + 11) + 120 ≤ 40 * (3 * d + 9); omega⟩ ⟨rfl, rfl⟩ ⟨Nat.zero_le _, Nat.zero_le _⟩ rfl (LM_ob hM) rfl (Nat.le_of_ble_eq_true rfl) _ rfl (fun I34 h => ?_)
          refine x_goto (pc := 71) 4 dX6_term_71 (by decide) ?_
          exact x_sub [0] rfl h
        · have h := hB31 hc
          refine x_iconst (pc := 38) dX6_term_38 ?_
          refine x_goto (pc := 39) 43 dX6_term_39 (by decide) ?_
          refine x_istore_n (pc := 43) (al' := [(0, vR 1), (1, vI 1)]) dX6_term_43 rfl rfl (Nat.le_of_ble_eq_true rfl) ?_
          refine x_aload_n (pc := 44) 0 dX6_term_44 rfl ?_
          refine x_dup (pc := 45) dX6_term_45 rfl ?_
          refine x_getI (pc := 46) dX6_term_46 FC6 4 (by decide) rfl fl_X6_60 (LM_ob hM) ?_
          refine x_iconst (pc := 49) dX6_term_49 ?_
          refine x_iadd (pc := 50) dX6_term_50 ?_
          refine x_putI (pc := 51) dX6_term_51 FC6 4 (by decide) rfl rfl fl_X6_60 (LM_ob hM) ?_
          refine x_nmI (fun I35 eI35 => ?_)
          have h := h I35 eI35
          refine x_aload_n (pc := 54) 0 dX6_term_54 rfl ?_
          refine x_Vv (μ := (m_X6_term d)) (pc := 55) dX6_term_55 h k_X6_factor ml_X6_138 ⟨by show (3 * d + 8) + 1 ≤ (3 * d + 9); omega, by show 8 + (4 + 11) + 40 * (3 * d + 8) ≤ 40 * (3 * d + 9); omega⟩ ⟨rfl, rfl⟩ ⟨Nat.zero_le _, Nat.zero_le _⟩ rfl (LM_ob hM) rfl (Nat.le_of_ble_eq_true rfl) _ rfl (fun I36 h => ?_)
          refine x_aload_n (pc := 58) 0 dX6_term_58 rfl ?_
          refine x_iload_n (pc := 59) 1 dX6_term_59 rfl ?_
          refine x_if_eq (pc := 60) 67 dX6_term_60 (by decide) ⟨by decide, by decide⟩ (fun hc => absurd hc (by decide)) (fun hc => ?_)
          refine x_iconst (pc := 63) dX6_term_63 ?_
          refine x_goto (pc := 64) 68 dX6_term_64 (by decide) ?_
          refine x_Vv (μ := (m_X6_term d)) (pc := 68) dX6_term_68 h k_X6_emit ml_X6_135 ⟨by show 3 + 1 ≤ (3 * d + 9); omega, by show 8 + (2 + 11) + 120 ≤ 40 * (3 * d + 9); omega⟩ ⟨rfl, rfl⟩ ⟨Nat.zero_le _, Nat.zero_le _⟩ rfl (LM_ob hM) rfl (Nat.le_of_ble_eq_true rfl) _ rfl (fun I37 h => ?_)
          refine x_goto (pc := 71) 4 dX6_term_71 (by decide) ?_
          exact x_sub [0] rfl h
