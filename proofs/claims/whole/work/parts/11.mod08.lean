set_option maxRecDepth 100000 in
set_option maxHeartbeats 4000000 in
theorem t_X6_isBetter_0 {Γ : GG} {P : MP} {I : MM} {R : Int → MM → Prop} {x0 x1 x2 x3 : Int} 
    (h : (inR x0) ∧ (inR x2) ∧ ((x0 = x2 → (inR x1) ∧ (inR x3) ∧ ((x3 ≤ x1 → R 0 I) ∧ (¬ x3 ≤ x1 → R 1 I))) ∧ (¬ x0 = x2 → ((x2 ≤ x0 → R 0 I) ∧ (¬ x2 ≤ x0 → R 1 I))))) :
    XM Γ m_X6_isBetter 0 0 0 [(0, vI x0), (1, vI x1), (2, vI x2), (3, vI x3)] [] P I (ri P R) := by
  refine x_iload_n (pc := 0) 0 dX6_isBetter_0 rfl ?_
  refine x_iload_n (pc := 1) 2 dX6_isBetter_1 rfl ?_
  obtain ⟨hr1, h⟩ := h
  obtain ⟨hr2, h⟩ := h
  obtain ⟨hA3, hB4⟩ := h
  refine x_icmp_eq (pc := 2) 18 dX6_isBetter_2 (by decide) hr1 hr2 (fun hc => ?_) (fun hc => ?_)
  · have h := hA3 hc
    refine x_iload_n (pc := 18) 1 dX6_isBetter_18 rfl ?_
    refine x_iload_n (pc := 19) 3 dX6_isBetter_19 rfl ?_
    obtain ⟨hr5, h⟩ := h
    obtain ⟨hr6, h⟩ := h
    obtain ⟨hA7, hB8⟩ := h
    refine x_icmp_ge (pc := 20) 27 dX6_isBetter_20 (by decide) hr5 hr6 (fun hc => ?_) (fun hc => ?_)
    · have h := hA7 hc
      refine x_iconst (pc := 27) dX6_isBetter_27 ?_
      exact x_zret (pc := 28) dX6_isBetter_28 rfl (by decide) (Nat.le_refl _) (Nat.le_refl _) ⟨_, rfl, rfl, h⟩
    · have h := hB8 hc
      refine x_iconst (pc := 23) dX6_isBetter_23 ?_
      refine x_goto (pc := 24) 28 dX6_isBetter_24 (by decide) ?_
      exact x_zret (pc := 28) dX6_isBetter_28 rfl (by decide) (Nat.le_refl _) (Nat.le_refl _) ⟨_, rfl, rfl, h⟩
  · have h := hB4 hc
    refine x_iload_n (pc := 5) 0 dX6_isBetter_5 rfl ?_
    refine x_iload_n (pc := 6) 2 dX6_isBetter_6 rfl ?_
    obtain ⟨hA9, hB10⟩ := h
    refine x_icmp_ge (pc := 7) 14 dX6_isBetter_7 (by decide) hr1 hr2 (fun hc => ?_) (fun hc => ?_)
    · have h := hA9 hc
      refine x_iconst (pc := 14) dX6_isBetter_14 ?_
      refine x_goto (pc := 15) 28 dX6_isBetter_15 (by decide) ?_
      exact x_zret (pc := 28) dX6_isBetter_28 rfl (by decide) (Nat.le_refl _) (Nat.le_refl _) ⟨_, rfl, rfl, h⟩
    · have h := hB10 hc
      refine x_iconst (pc := 10) dX6_isBetter_10 ?_
      refine x_goto (pc := 11) 28 dX6_isBetter_11 (by decide) ?_
      exact x_zret (pc := 28) dX6_isBetter_28 rfl (by decide) (Nat.le_refl _) (Nat.le_refl _) ⟨_, rfl, rfl, h⟩
set_option maxRecDepth 100000 in
set_option maxHeartbeats 4000000 in
theorem t_X6_findPath_0 {Γ : GG} {P : MP} {I : MM} {R : MM → Prop} (hM : LM Γ P)
    (h : (Cl Γ m_X6_findStarts [vR 1] P I (ri P (fun (z1 : Int) (I2 : MM) => (∀ I3 : MM, I3 = up2 I2 1 24 0 → (∀ x4 : Int, x4 = ((I3 3 2) - 1) → XM Γ m_X6_findPath 0 0 21 [(0, vR 1), (1, vI z1), (2, vI (-1)), (3, vI x4)] [] P I3 (rv P R))))))) :
    XM Γ m_X6_findPath 0 0 0 [(0, vR 1)] [] P I (rv P R) := by
  refine x_aload_n (pc := 0) 0 dX6_findPath_0 rfl ?_
  refine x_Vi (μ := m_X6_findPath) (pc := 1) dX6_findPath_1 h k_X6_findStarts ml_X6_217 ⟨Nat.le_of_ble_eq_true rfl, Nat.le_of_ble_eq_true rfl⟩ ⟨rfl, rfl⟩ ⟨Nat.zero_le _, Nat.zero_le _⟩ rfl (LM_ob hM) rfl (Nat.le_of_ble_eq_true rfl) _ rfl (fun z1 I2 h => ?_)
  refine x_istore_n (pc := 4) (al' := [(0, vR 1), (1, vI z1)]) dX6_findPath_4 rfl rfl (by decide) ?_
  refine x_aload_n (pc := 5) 0 dX6_findPath_5 rfl ?_
  refine x_iconst (pc := 6) dX6_findPath_6 ?_
  refine x_putI (pc := 7) dX6_findPath_7 FC6 24 (by decide) rfl rfl fl_X6_263 (LM_ob hM) ?_
  refine x_nmI (fun I3 eI3 => ?_)
  have h := h I3 eI3
  refine x_iconst (pc := 10) dX6_findPath_10 ?_
  refine x_istore_n (pc := 11) (al' := [(0, vR 1), (1, vI z1), (2, vI (-1))]) dX6_findPath_11 rfl rfl (by decide) ?_
  refine x_aload_n (pc := 12) 0 dX6_findPath_12 rfl ?_
  refine x_getP (pc := 13) dX6_findPath_13 FC6 8 (by decide) rfl fl_X6_17 (LM_ob hM) (LM_p8 hM) ?_
  refine x_iconst (pc := 16) dX6_findPath_16 ?_
  refine x_iald (pc := 17) dX6_findPath_17 (LM_a8 hM) (by decide) (by decide) (by decide) ?_
  refine x_iconst (pc := 18) dX6_findPath_18 ?_
  refine x_isub (pc := 19) dX6_findPath_19 ?_
  refine x_nmT (fun x4 ex4 => ?_)
  have h := h x4 ex4
  refine x_istore_n (pc := 20) (al' := [(0, vR 1), (1, vI z1), (2, vI (-1)), (3, vI x4)]) dX6_findPath_20 rfl rfl (by decide) ?_
  exact x_sub [0, 1, 2, 3] rfl h
set_option maxRecDepth 100000 in
set_option maxHeartbeats 4000000 in
theorem t_X6_findPath_21 {Γ : GG} {P : MP} {I : MM} {R : MM → Prop} {x1 x2 x3 : Int} (hM : LM Γ P)
    (h : (inR x3) ∧ ((x3 < 0 → XM Γ m_X6_findPath 0 0 62 [(0, vR 1), (1, vI x1), (2, vI x2)] [] P I (rv P R)) ∧ (¬ x3 < 0 → (Cl Γ m_X6_completionOf [vR 1, vI x3] P I (ri P (fun (z4 : Int) (I5 : MM) => (Cl Γ m_X6_makespanOf [vR 1] P I5 (ri P (fun (z6 : Int) (I7 : MM) => (inR z4) ∧ (inR z6) ∧ ((z4 ≠ z6 → XM Γ m_X6_findPath 0 0 21 [(0, vR 1), (1, vI x1), (2, vI x2), (3, vI (x3 + (-1)))] [] P I7 (rv P R)) ∧ (z4 = z6 → (Cl Γ m_X6_job [vI x3] P I7 (ri P (fun (z12 : Int) (I13 : MM) => (0 ≤ (z12 + 3)) ∧ ((z12 + 3) < 1655) ∧ (∀ x16 : Int, x16 = (((6 * x3) + (I13 3 ((z12 + 3)).toNat)) - 1) → XM Γ m_X6_findPath 0 0 21 [(0, vR 1), (1, vI x1), (2, vI x16), (3, vI (x3 + (-1)))] [] P I13 (rv P R)))))))))))))))) :
    XM Γ m_X6_findPath 0 0 21 [(0, vR 1), (1, vI x1), (2, vI x2), (3, vI x3)] [] P I (rv P R) := by
  refine x_iload_n (pc := 21) 3 dX6_findPath_21 rfl ?_
  obtain ⟨hr1, h⟩ := h
  obtain ⟨hA2, hB3⟩ := h
  refine x_if_lt (pc := 22) 62 dX6_findPath_22 (by decide) hr1 (fun hc => ?_) (fun hc => ?_)
  · have h := hA2 hc
    exact x_sub [0, 1, 2] rfl h
  · have h := hB3 hc
    refine x_aload_n (pc := 25) 0 dX6_findPath_25 rfl ?_
    refine x_iload_n (pc := 26) 3 dX6_findPath_26 rfl ?_
    refine x_Vi (μ := m_X6_findPath) (pc := 27) dX6_findPath_27 h k_X6_completionOf ml_X6_223 ⟨Nat.le_of_ble_eq_true rfl, Nat.le_of_ble_eq_true rfl⟩ ⟨rfl, rfl⟩ ⟨Nat.zero_le _, Nat.zero_le _⟩ rfl (LM_ob hM) rfl (Nat.le_of_ble_eq_true rfl) _ rfl (fun z4 I5 h => ?_)
    refine x_aload_n (pc := 30) 0 dX6_findPath_30 rfl ?_
    refine x_Vi (μ := m_X6_findPath) (pc := 31) dX6_findPath_31 h k_X6_makespanOf ml_X6_247 ⟨Nat.le_of_ble_eq_true rfl, Nat.le_of_ble_eq_true rfl⟩ ⟨rfl, rfl⟩ ⟨Nat.zero_le _, Nat.zero_le _⟩ rfl (LM_ob hM) rfl (Nat.le_of_ble_eq_true rfl) _ rfl (fun z6 I7 h => ?_)
    obtain ⟨hr8, h⟩ := h
    obtain ⟨hr9, h⟩ := h
    obtain ⟨hA10, hB11⟩ := h
    refine x_icmp_ne (pc := 34) 56 dX6_findPath_34 (by decide) hr8 hr9 (fun hc => ?_) (fun hc => ?_)
    · have h := hA10 hc
      refine x_iinc (pc := 56) (al' := [(0, vR 1), (1, vI x1), (2, vI x2), (3, vI (x3 + (-1)))]) 3 dX6_findPath_56 rfl rfl rfl (by decide) ?_
      refine x_goto (pc := 59) 21 dX6_findPath_59 (by decide) ?_
      exact x_sub [0, 1, 2, 3] rfl h
    · have h := hB11 hc
      refine x_bipush (pc := 37) dX6_findPath_37 rfl ?_
      refine x_iload_n (pc := 39) 3 dX6_findPath_39 rfl ?_
      refine x_imul (pc := 40) dX6_findPath_40 ?_
      refine x_aload_n (pc := 41) 0 dX6_findPath_41 rfl ?_
      refine x_getP (pc := 42) dX6_findPath_42 FC6 8 (by decide) rfl fl_X6_17 (LM_ob hM) (LM_p8 hM) ?_
      refine x_iload_n (pc := 45) 3 dX6_findPath_45 rfl ?_
      refine x_Si (μ := m_X6_findPath) (pc := 46) dX6_findPath_46 h k_X6_job ml_X6_147 ⟨Nat.le_of_ble_eq_true rfl, Nat.le_of_ble_eq_true rfl⟩ ⟨rfl, rfl⟩ ⟨Nat.zero_le _, Nat.zero_le _⟩ rfl (Nat.le_of_ble_eq_true rfl) _ rfl (fun z12 I13 h => ?_)
      refine x_iconst (pc := 49) dX6_findPath_49 ?_
      refine x_iadd (pc := 50) dX6_findPath_50 ?_
      obtain ⟨hv14, h⟩ := h
      obtain ⟨hv15, h⟩ := h
      refine x_iald (pc := 51) dX6_findPath_51 (LM_a8 hM) hv14 hv15 (by decide) ?_
      refine x_iadd (pc := 52) dX6_findPath_52 ?_
      refine x_iconst (pc := 53) dX6_findPath_53 ?_
      refine x_isub (pc := 54) dX6_findPath_54 ?_
      refine x_nmT (fun x16 ex16 => ?_)
      have h := h x16 ex16
      refine x_istore_n (pc := 55) (al' := [(0, vR 1), (1, vI x1), (2, vI x16), (3, vI x3)]) dX6_findPath_55 rfl rfl (by decide) ?_
      refine x_iinc (pc := 56) (al' := [(0, vR 1), (1, vI x1), (2, vI x16), (3, vI (x3 + (-1)))]) 3 dX6_findPath_56 rfl rfl rfl (by decide) ?_
      refine x_goto (pc := 59) 21 dX6_findPath_59 (by decide) ?_
      exact x_sub [0, 1, 2, 3] rfl h
set_option maxRecDepth 100000 in
set_option maxHeartbeats 4000000 in
theorem t_X6_findPath_62 {Γ : GG} {P : MP} {I : MM} {R : MM → Prop} {x1 x2 : Int} (hM : LM Γ P)
    (h : (inR x1) ∧ ((x1 = 0 → R I) ∧ (¬ x1 = 0 → (inR x2) ∧ ((x2 = (-1) → R I) ∧ (¬ x2 = (-1) → (Cl Γ m_X6_isOnPath [vR 1, vI x2] P I (ri P (fun (z7 : Int) (I8 : MM) => (inR z7) ∧ ((z7 ≠ 0 → R I8) ∧ (z7 = 0 → (0 ≤ (I8 1 24)) ∧ ((I8 1 24) < 36) ∧ (∀ I14 : MM, I14 = up2 I8 12 ((I8 1 24)).toNat x2 → (∀ I15 : MM, I15 = up2 I14 1 24 ((I14 1 24) + 1) → (0 ≤ x2) ∧ (inR (x2 % 6)) ∧ (((x2 % 6) ≠ 0 → (0 ≤ (x2 - 1)) ∧ ((x2 - 1) < 36) ∧ (Cl Γ m_X6_durationOf [vR 1, vI (x2 - 1)] P I15 (ri P (fun (z22 : Int) (I23 : MM) => (x2 < 36) ∧ (inR ((I15 9 ((x2 - 1)).toNat) + z22)) ∧ (inR (I23 9 (x2).toNat)) ∧ ((((I15 9 ((x2 - 1)).toNat) + z22) ≠ (I23 9 (x2).toNat) → (∀ x29 : Int, x29 = (I23 7 (x2).toNat) → XM Γ m_X6_findPath 0 0 62 [(0, vR 1), (1, vI x1), (2, vI x29)] [] P I23 (rv P R))) ∧ (((I15 9 ((x2 - 1)).toNat) + z22) = (I23 9 (x2).toNat) → (∀ x30 : Int, x30 = (x2 - 1) → XM Γ m_X6_findPath 0 0 62 [(0, vR 1), (1, vI x1), (2, vI x30)] [] P I23 (rv P R)))))))) ∧ ((x2 % 6) = 0 → (x2 < 36) ∧ (Cl Γ m_X6_job [vI (x2 / 6)] P I15 (ri P (fun (z32 : Int) (I33 : MM) => (0 ≤ z32) ∧ (z32 < 1655) ∧ (inR (I15 9 (x2).toNat)) ∧ (inR (I33 3 (z32).toNat)) ∧ (((I15 9 (x2).toNat) ≠ (I33 3 (z32).toNat) → (∀ x40 : Int, x40 = (I33 7 (x2).toNat) → XM Γ m_X6_findPath 0 0 62 [(0, vR 1), (1, vI x1), (2, vI x40)] [] P I33 (rv P R))) ∧ ((I15 9 (x2).toNat) = (I33 3 (z32).toNat) → R I33))))))))))))))))))) :
    XM Γ m_X6_findPath 0 0 62 [(0, vR 1), (1, vI x1), (2, vI x2)] [] P I (rv P R) := by
  refine x_iload_n (pc := 62) 1 dX6_findPath_62 rfl ?_
  obtain ⟨hr1, h⟩ := h
  obtain ⟨hA2, hB3⟩ := h
  refine x_if_eq (pc := 63) 183 dX6_findPath_63 (by decide) hr1 (fun hc => ?_) (fun hc => ?_)
  · have h := hA2 hc
    exact x_vret (pc := 183) dX6_findPath_183 rfl (Nat.le_refl _) (Nat.le_refl _) ⟨rfl, rfl, h⟩
  · have h := hB3 hc
    refine x_iload_n (pc := 66) 2 dX6_findPath_66 rfl ?_
    refine x_iconst (pc := 67) dX6_findPath_67 ?_
    obtain ⟨hr4, h⟩ := h
    obtain ⟨hA5, hB6⟩ := h
    refine x_icmp_eq (pc := 68) 183 dX6_findPath_68 (by decide) hr4 ⟨by decide, by decide⟩ (fun hc => ?_) (fun hc => ?_)
    · have h := hA5 hc
      exact x_vret (pc := 183) dX6_findPath_183 rfl (Nat.le_refl _) (Nat.le_refl _) ⟨rfl, rfl, h⟩
    · have h := hB6 hc
      refine x_aload_n (pc := 71) 0 dX6_findPath_71 rfl ?_
      refine x_iload_n (pc := 72) 2 dX6_findPath_72 rfl ?_
      refine x_Vi (μ := m_X6_findPath) (pc := 73) dX6_findPath_73 h k_X6_isOnPath ml_X6_266 ⟨Nat.le_of_ble_eq_true rfl, Nat.le_of_ble_eq_true rfl⟩ ⟨rfl, rfl⟩ ⟨Nat.zero_le _, Nat.zero_le _⟩ rfl (LM_ob hM) rfl (Nat.le_of_ble_eq_true rfl) _ rfl (fun z7 I8 h => ?_)
      obtain ⟨hr9, h⟩ := h
      obtain ⟨hA10, hB11⟩ := h
      refine x_if_ne (pc := 76) 183 dX6_findPath_76 (by decide) hr9 (fun hc => ?_) (fun hc => ?_)
      · have h := hA10 hc
        exact x_vret (pc := 183) dX6_findPath_183 rfl (Nat.le_refl _) (Nat.le_refl _) ⟨rfl, rfl, h⟩
      · have h := hB11 hc
        refine x_aload_n (pc := 79) 0 dX6_findPath_79 rfl ?_
        refine x_getP (pc := 80) dX6_findPath_80 FC6 23 (by decide) rfl fl_X6_48 (LM_ob hM) (LM_p23 hM) ?_
        refine x_aload_n (pc := 83) 0 dX6_findPath_83 rfl ?_
        refine x_getI (pc := 84) dX6_findPath_84 FC6 24 (by decide) rfl fl_X6_263 (LM_ob hM) ?_
        refine x_iload_n (pc := 87) 2 dX6_findPath_87 rfl ?_
        obtain ⟨hv12, h⟩ := h
        obtain ⟨hv13, h⟩ := h
        refine x_iast (pc := 88) dX6_findPath_88 (LM_a23 hM) hv12 hv13 (by decide) ?_
        refine x_nmI (fun I14 eI14 => ?_)
        have h := h I14 eI14
        refine x_aload_n (pc := 89) 0 dX6_findPath_89 rfl ?_
        refine x_dup (pc := 90) dX6_findPath_90 rfl ?_
        refine x_getI (pc := 91) dX6_findPath_91 FC6 24 (by decide) rfl fl_X6_263 (LM_ob hM) ?_
        refine x_iconst (pc := 94) dX6_findPath_94 ?_
        refine x_iadd (pc := 95) dX6_findPath_95 ?_
        refine x_putI (pc := 96) dX6_findPath_96 FC6 24 (by decide) rfl rfl fl_X6_263 (LM_ob hM) ?_
        refine x_nmI (fun I15 eI15 => ?_)
        have h := h I15 eI15
        refine x_iload_n (pc := 99) 2 dX6_findPath_99 rfl ?_
        refine x_bipush (pc := 100) dX6_findPath_100 rfl ?_
        obtain ⟨hv16, h⟩ := h
        refine x_irem (pc := 102) dX6_findPath_102 hr4 ⟨by decide, by decide⟩ hv16 (by decide) ?_
        obtain ⟨hr17, h⟩ := h
        obtain ⟨hA18, hB19⟩ := h
        refine x_if_ne (pc := 103) 110 dX6_findPath_103 (by decide) hr17 (fun hc => ?_) (fun hc => ?_)
        · have h := hA18 hc
          refine x_iconst (pc := 110) dX6_findPath_110 ?_
          refine x_istore_n (pc := 111) (al' := [(0, vR 1), (1, vI x1), (2, vI x2), (3, vI 0)]) dX6_findPath_111 rfl rfl (by decide) ?_
          refine x_iload_n (pc := 112) 3 dX6_findPath_112 rfl ?_
          refine x_if_eq (pc := 113) 138 dX6_findPath_113 (by decide) ⟨by decide, by decide⟩ (fun hc => ?_) (fun hc => absurd hc (by decide))
          refine x_iload_n (pc := 138) 3 dX6_findPath_138 rfl ?_
          refine x_if_ne (pc := 139) 173 dX6_findPath_139 (by decide) ⟨by decide, by decide⟩ (fun hc => absurd hc (by decide)) (fun hc => ?_)
          refine x_aload_n (pc := 142) 0 dX6_findPath_142 rfl ?_
          refine x_getP (pc := 143) dX6_findPath_143 FC6 18 (by decide) rfl fl_X6_37 (LM_ob hM) (LM_p18 hM) ?_
          refine x_iload_n (pc := 146) 2 dX6_findPath_146 rfl ?_
          refine x_iconst (pc := 147) dX6_findPath_147 ?_
          refine x_isub (pc := 148) dX6_findPath_148 ?_
          obtain ⟨hv20, h⟩ := h
          obtain ⟨hv21, h⟩ := h
          refine x_iald (pc := 149) dX6_findPath_149 (LM_a18 hM) hv20 hv21 (by decide) ?_
          refine x_aload_n (pc := 150) 0 dX6_findPath_150 rfl ?_
          refine x_iload_n (pc := 151) 2 dX6_findPath_151 rfl ?_
          refine x_iconst (pc := 152) dX6_findPath_152 ?_
          refine x_isub (pc := 153) dX6_findPath_153 ?_
          refine x_Vi (μ := m_X6_findPath) (pc := 154) dX6_findPath_154 h k_X6_durationOf ml_X6_202 ⟨Nat.le_of_ble_eq_true rfl, Nat.le_of_ble_eq_true rfl⟩ ⟨rfl, rfl⟩ ⟨Nat.zero_le _, Nat.zero_le _⟩ rfl (LM_ob hM) rfl (Nat.le_of_ble_eq_true rfl) _ rfl (fun z22 I23 h => ?_)
          refine x_iadd (pc := 157) dX6_findPath_157 ?_
          refine x_aload_n (pc := 158) 0 dX6_findPath_158 rfl ?_
          refine x_getP (pc := 159) dX6_findPath_159 FC6 18 (by decide) rfl fl_X6_37 (LM_ob hM) (LM_p18 hM) ?_
          refine x_iload_n (pc := 162) 2 dX6_findPath_162 rfl ?_
          obtain ⟨hv24, h⟩ := h
          refine x_iald (pc := 163) dX6_findPath_163 (LM_a18 hM) hv16 hv24 (by decide) ?_
          obtain ⟨hr25, h⟩ := h
          obtain ⟨hr26, h⟩ := h
          obtain ⟨hA27, hB28⟩ := h
          refine x_icmp_ne (pc := 164) 173 dX6_findPath_164 (by decide) hr25 hr26 (fun hc => ?_) (fun hc => ?_)
          · have h := hA27 hc
            refine x_aload_n (pc := 173) 0 dX6_findPath_173 rfl ?_
            refine x_getP (pc := 174) dX6_findPath_174 FC6 16 (by decide) rfl fl_X6_31 (LM_ob hM) (LM_p16 hM) ?_
            refine x_iload_n (pc := 177) 2 dX6_findPath_177 rfl ?_
            refine x_iald (pc := 178) dX6_findPath_178 (LM_a16 hM) hv16 hv24 (by decide) ?_
            refine x_nmT (fun x29 ex29 => ?_)
            have h := h x29 ex29
            refine x_istore_n (pc := 179) (al' := [(0, vR 1), (1, vI x1), (2, vI x29), (3, vI 0)]) dX6_findPath_179 rfl rfl (by decide) ?_
            refine x_goto (pc := 180) 62 dX6_findPath_180 (by decide) ?_
            exact x_sub [0, 1, 2] rfl h
          · have h := hB28 hc
            refine x_iload_n (pc := 167) 2 dX6_findPath_167 rfl ?_
            refine x_iconst (pc := 168) dX6_findPath_168 ?_
            refine x_isub (pc := 169) dX6_findPath_169 ?_
            refine x_goto (pc := 170) 179 dX6_findPath_170 (by decide) ?_
            refine x_nmT (fun x30 ex30 => ?_)
            have h := h x30 ex30
            refine x_istore_n (pc := 179) (al' := [(0, vR 1), (1, vI x1), (2, vI x30), (3, vI 0)]) dX6_findPath_179 rfl rfl (by decide) ?_
            refine x_goto (pc := 180) 62 dX6_findPath_180 (by decide) ?_
            exact x_sub [0, 1, 2] rfl h
        · have h := hB19 hc
          refine x_iconst (pc := 106) dX6_findPath_106 ?_
          refine x_goto (pc := 107) 111 dX6_findPath_107 (by decide) ?_
          refine x_istore_n (pc := 111) (al' := [(0, vR 1), (1, vI x1), (2, vI x2), (3, vI 1)]) dX6_findPath_111 rfl rfl (by decide) ?_
          refine x_iload_n (pc := 112) 3 dX6_findPath_112 rfl ?_
          refine x_if_eq (pc := 113) 138 dX6_findPath_113 (by decide) ⟨by decide, by decide⟩ (fun hc => absurd hc (by decide)) (fun hc => ?_)
          refine x_aload_n (pc := 116) 0 dX6_findPath_116 rfl ?_
          refine x_getP (pc := 117) dX6_findPath_117 FC6 18 (by decide) rfl fl_X6_37 (LM_ob hM) (LM_p18 hM) ?_
          refine x_iload_n (pc := 120) 2 dX6_findPath_120 rfl ?_
          obtain ⟨hv31, h⟩ := h
          refine x_iald (pc := 121) dX6_findPath_121 (LM_a18 hM) hv16 hv31 (by decide) ?_
          refine x_aload_n (pc := 122) 0 dX6_findPath_122 rfl ?_
          refine x_getP (pc := 123) dX6_findPath_123 FC6 8 (by decide) rfl fl_X6_17 (LM_ob hM) (LM_p8 hM) ?_
          refine x_iload_n (pc := 126) 2 dX6_findPath_126 rfl ?_
          refine x_bipush (pc := 127) dX6_findPath_127 rfl ?_
          refine x_idiv (pc := 129) dX6_findPath_129 hr4 ⟨by decide, by decide⟩ hv16 (by decide) ?_
          refine x_Si (μ := m_X6_findPath) (pc := 130) dX6_findPath_130 h k_X6_job ml_X6_147 ⟨Nat.le_of_ble_eq_true rfl, Nat.le_of_ble_eq_true rfl⟩ ⟨rfl, rfl⟩ ⟨Nat.zero_le _, Nat.zero_le _⟩ rfl (Nat.le_of_ble_eq_true rfl) _ rfl (fun z32 I33 h => ?_)
          obtain ⟨hv34, h⟩ := h
          obtain ⟨hv35, h⟩ := h
          refine x_iald (pc := 133) dX6_findPath_133 (LM_a8 hM) hv34 hv35 (by decide) ?_
          obtain ⟨hr36, h⟩ := h
          obtain ⟨hr37, h⟩ := h
          obtain ⟨hA38, hB39⟩ := h
          refine x_icmp_ne (pc := 134) 138 dX6_findPath_134 (by decide) hr36 hr37 (fun hc => ?_) (fun hc => ?_)
          · have h := hA38 hc
            refine x_iload_n (pc := 138) 3 dX6_findPath_138 rfl ?_
            refine x_if_ne (pc := 139) 173 dX6_findPath_139 (by decide) ⟨by decide, by decide⟩ (fun hc => ?_) (fun hc => absurd hc (by decide))
            refine x_aload_n (pc := 173) 0 dX6_findPath_173 rfl ?_
            refine x_getP (pc := 174) dX6_findPath_174 FC6 16 (by decide) rfl fl_X6_31 (LM_ob hM) (LM_p16 hM) ?_
            refine x_iload_n (pc := 177) 2 dX6_findPath_177 rfl ?_
            refine x_iald (pc := 178) dX6_findPath_178 (LM_a16 hM) hv16 hv31 (by decide) ?_
            refine x_nmT (fun x40 ex40 => ?_)
            have h := h x40 ex40
            refine x_istore_n (pc := 179) (al' := [(0, vR 1), (1, vI x1), (2, vI x40), (3, vI 1)]) dX6_findPath_179 rfl rfl (by decide) ?_
            refine x_goto (pc := 180) 62 dX6_findPath_180 (by decide) ?_
            exact x_sub [0, 1, 2] rfl h
          · have h := hB39 hc
            exact x_vret (pc := 137) dX6_findPath_137 rfl (Nat.le_refl _) (Nat.le_refl _) ⟨rfl, rfl, h⟩
set_option maxRecDepth 100000 in
set_option maxHeartbeats 4000000 in
theorem t_X6_isOnPath_0 {Γ : GG} {P : MP} {I : MM} {R : Int → MM → Prop} {x1 : Int} (hM : LM Γ P)
    (h : XM Γ m_X6_isOnPath 0 0 2 [(0, vR 1), (1, vI x1), (2, vI 0)] [] P I (ri P R)) :
    XM Γ m_X6_isOnPath 0 0 0 [(0, vR 1), (1, vI x1)] [] P I (ri P R) := by
  refine x_iconst (pc := 0) dX6_isOnPath_0 ?_
  refine x_istore_n (pc := 1) (al' := [(0, vR 1), (1, vI x1), (2, vI 0)]) dX6_isOnPath_1 rfl rfl (by decide) ?_
  exact x_sub [0, 1, 2] rfl h
set_option maxRecDepth 100000 in
set_option maxHeartbeats 4000000 in
theorem t_X6_isOnPath_2 {Γ : GG} {P : MP} {I : MM} {R : Int → MM → Prop} {x1 x2 : Int} (hM : LM Γ P)
    (h : (inR x2) ∧ (inR (I 1 24)) ∧ (((I 1 24) ≤ x2 → R 0 I) ∧ (¬ (I 1 24) ≤ x2 → (0 ≤ x2) ∧ (x2 < 36) ∧ (inR (I 12 (x2).toNat)) ∧ (inR x1) ∧ (((I 12 (x2).toNat) ≠ x1 → XM Γ m_X6_isOnPath 0 0 2 [(0, vR 1), (1, vI x1), (2, vI (x2 + 1))] [] P I (ri P R)) ∧ ((I 12 (x2).toNat) = x1 → R 1 I))))) :
    XM Γ m_X6_isOnPath 0 0 2 [(0, vR 1), (1, vI x1), (2, vI x2)] [] P I (ri P R) := by
  refine x_iload_n (pc := 2) 2 dX6_isOnPath_2 rfl ?_
  refine x_aload_n (pc := 3) 0 dX6_isOnPath_3 rfl ?_
  refine x_getI (pc := 4) dX6_isOnPath_4 FC6 24 (by decide) rfl fl_X6_263 (LM_ob hM) ?_
  obtain ⟨hr1, h⟩ := h
  obtain ⟨hr2, h⟩ := h
  obtain ⟨hA3, hB4⟩ := h
  refine x_icmp_ge (pc := 7) 28 dX6_isOnPath_7 (by decide) hr1 hr2 (fun hc => ?_) (fun hc => ?_)
  · have h := hA3 hc
    refine x_iconst (pc := 28) dX6_isOnPath_28 ?_
    exact x_zret (pc := 29) dX6_isOnPath_29 rfl (by decide) (Nat.le_refl _) (Nat.le_refl _) ⟨_, rfl, rfl, h⟩
  · have h := hB4 hc
    refine x_aload_n (pc := 10) 0 dX6_isOnPath_10 rfl ?_
    refine x_getP (pc := 11) dX6_isOnPath_11 FC6 23 (by decide) rfl fl_X6_48 (LM_ob hM) (LM_p23 hM) ?_
    refine x_iload_n (pc := 14) 2 dX6_isOnPath_14 rfl ?_
    obtain ⟨hv5, h⟩ := h
    obtain ⟨hv6, h⟩ := h
    refine x_iald (pc := 15) dX6_isOnPath_15 (LM_a23 hM) hv5 hv6 (by decide) ?_
    refine x_iload_n (pc := 16) 1 dX6_isOnPath_16 rfl ?_
    obtain ⟨hr7, h⟩ := h
    obtain ⟨hr8, h⟩ := h
    obtain ⟨hA9, hB10⟩ := h
    refine x_icmp_ne (pc := 17) 22 dX6_isOnPath_17 (by decide) hr7 hr8 (fun hc => ?_) (fun hc => ?_)
    · have h := hA9 hc
      refine x_iinc (pc := 22) (al' := [(0, vR 1), (1, vI x1), (2, vI (x2 + 1))]) 2 dX6_isOnPath_22 rfl rfl rfl (by decide) ?_
      refine x_goto (pc := 25) 2 dX6_isOnPath_25 (by decide) ?_
      exact x_sub [0, 1, 2] rfl h
    · have h := hB10 hc
      refine x_iconst (pc := 20) dX6_isOnPath_20 ?_
      exact x_zret (pc := 21) dX6_isOnPath_21 rfl (by decide) (Nat.le_refl _) (Nat.le_refl _) ⟨_, rfl, rfl, h⟩
set_option maxRecDepth 100000 in
set_option maxHeartbeats 4000000 in
theorem t_X6_told_0 {Γ : GG} {P : MP} {I : MM} {R : Int → MM → Prop} {x0 : Int} 
    (h : (inR x0) ∧ (0 ≤ x0) ∧ R ((10 * (x0 / 6)) + (x0 % 6)) I) :
    XM Γ m_X6_told 0 0 0 [(0, vI x0)] [] P I (ri P R) := by
  refine x_bipush (pc := 0) dX6_told_0 rfl ?_
  refine x_iload_n (pc := 2) 0 dX6_told_2 rfl ?_
  refine x_bipush (pc := 3) dX6_told_3 rfl ?_
  obtain ⟨hr1, h⟩ := h
  obtain ⟨hv2, h⟩ := h
  refine x_idiv (pc := 5) dX6_told_5 hr1 ⟨by decide, by decide⟩ hv2 (by decide) ?_
  refine x_imul (pc := 6) dX6_told_6 ?_
  refine x_iload_n (pc := 7) 0 dX6_told_7 rfl ?_
  refine x_bipush (pc := 8) dX6_told_8 rfl ?_
  refine x_irem (pc := 10) dX6_told_10 hr1 ⟨by decide, by decide⟩ hv2 (by decide) ?_
  refine x_iadd (pc := 11) dX6_told_11 ?_
  exact x_iret (pc := 12) dX6_told_12 rfl (Nat.le_refl _) (Nat.le_refl _) ⟨_, rfl, rfl, h⟩
set_option maxRecDepth 100000 in
set_option maxHeartbeats 4000000 in
theorem t_X6_noMachine_0 {Γ : GG} {P : MP} {I : MM} {R : Int → MM → Prop} {x1 : Int} (hM : LM Γ P)
    (h : (Cl Γ m_X6_in [vI x1, vI 0, vI ((I 3 0) - 1)] P I (ri P (fun (z1 : Int) (I2 : MM) => (inR z1) ∧ ((z1 ≠ 0 → (Cl Γ m_X6_fails [vR 1, vI 0, vI 1] P I2 (ri P (fun (z6 : Int) (I7 : MM) => (z6 = 0 ∨ z6 = 1) ∧ R z6 I7)))) ∧ (z1 = 0 → (Cl Γ m_X6_fails [vR 1, vI 1, vI 1] P I2 (ri P (fun (z9 : Int) (I10 : MM) => (z9 = 0 ∨ z9 = 1) ∧ R z9 I10))))))))) :
    XM Γ m_X6_noMachine 0 0 0 [(0, vR 1), (1, vI x1)] [] P I (ri P R) := by
  refine x_aload_n (pc := 0) 0 dX6_noMachine_0 rfl ?_
  refine x_iload_n (pc := 1) 1 dX6_noMachine_1 rfl ?_
  refine x_iconst (pc := 2) dX6_noMachine_2 ?_
  refine x_aload_n (pc := 3) 0 dX6_noMachine_3 rfl ?_
  refine x_getP (pc := 4) dX6_noMachine_4 FC6 8 (by decide) rfl fl_X6_17 (LM_ob hM) (LM_p8 hM) ?_
  refine x_iconst (pc := 7) dX6_noMachine_7 ?_
  refine x_iald (pc := 8) dX6_noMachine_8 (LM_a8 hM) (by decide) (by decide) (by decide) ?_
  refine x_iconst (pc := 9) dX6_noMachine_9 ?_
  refine x_isub (pc := 10) dX6_noMachine_10 ?_
  refine x_Si (μ := m_X6_noMachine) (pc := 11) dX6_noMachine_11 h k_X6_in ml_X6_73 ⟨Nat.le_of_ble_eq_true rfl, Nat.le_of_ble_eq_true rfl⟩ ⟨rfl, rfl⟩ ⟨Nat.zero_le _, Nat.zero_le _⟩ rfl (Nat.le_of_ble_eq_true rfl) _ rfl (fun z1 I2 h => ?_)
  obtain ⟨hr3, h⟩ := h
  obtain ⟨hA4, hB5⟩ := h
  refine x_if_ne (pc := 14) 21 dX6_noMachine_14 (by decide) hr3 (fun hc => ?_) (fun hc => ?_)
  · have h := hA4 hc
    refine x_iconst (pc := 21) dX6_noMachine_21 ?_
    refine x_iconst (pc := 22) dX6_noMachine_22 ?_
    refine x_Vi (μ := m_X6_noMachine) (pc := 23) dX6_noMachine_23 h k_X6_fails ml_X6_174 ⟨Nat.le_of_ble_eq_true rfl, Nat.le_of_ble_eq_true rfl⟩ ⟨rfl, rfl⟩ ⟨Nat.zero_le _, Nat.zero_le _⟩ rfl (LM_ob hM) rfl (Nat.le_of_ble_eq_true rfl) _ rfl (fun z6 I7 h => ?_)
    obtain ⟨hv8, h⟩ := h
    exact x_zret (pc := 26) dX6_noMachine_26 rfl hv8 (Nat.le_refl _) (Nat.le_refl _) ⟨_, rfl, rfl, h⟩
  · have h := hB5 hc
    refine x_iconst (pc := 17) dX6_noMachine_17 ?_
    refine x_goto (pc := 18) 22 dX6_noMachine_18 (by decide) ?_
    refine x_iconst (pc := 22) dX6_noMachine_22 ?_
    refine x_Vi (μ := m_X6_noMachine) (pc := 23) dX6_noMachine_23 h k_X6_fails ml_X6_174 ⟨Nat.le_of_ble_eq_true rfl, Nat.le_of_ble_eq_true rfl⟩ ⟨rfl, rfl⟩ ⟨Nat.zero_le _, Nat.zero_le _⟩ rfl (LM_ob hM) rfl (Nat.le_of_ble_eq_true rfl) _ rfl (fun z9 I10 h => ?_)
    obtain ⟨hv11, h⟩ := h
    exact x_zret (pc := 26) dX6_noMachine_26 rfl hv11 (Nat.le_refl _) (Nat.le_refl _) ⟨_, rfl, rfl, h⟩
set_option maxRecDepth 100000 in
set_option maxHeartbeats 4000000 in
theorem t_X6_noJob_0 {Γ : GG} {P : MP} {I : MM} {R : Int → MM → Prop} {x1 : Int} (hM : LM Γ P)
    (h : (Cl Γ m_X6_in [vI x1, vI 0, vI ((I 3 2) - 1)] P I (ri P (fun (z1 : Int) (I2 : MM) => (inR z1) ∧ ((z1 ≠ 0 → (Cl Γ m_X6_fails [vR 1, vI 0, vI 1] P I2 (ri P (fun (z6 : Int) (I7 : MM) => (z6 = 0 ∨ z6 = 1) ∧ R z6 I7)))) ∧ (z1 = 0 → (Cl Γ m_X6_fails [vR 1, vI 1, vI 1] P I2 (ri P (fun (z9 : Int) (I10 : MM) => (z9 = 0 ∨ z9 = 1) ∧ R z9 I10))))))))) :
    XM Γ m_X6_noJob 0 0 0 [(0, vR 1), (1, vI x1)] [] P I (ri P R) := by
  refine x_aload_n (pc := 0) 0 dX6_noJob_0 rfl ?_
  refine x_iload_n (pc := 1) 1 dX6_noJob_1 rfl ?_
  refine x_iconst (pc := 2) dX6_noJob_2 ?_
  refine x_aload_n (pc := 3) 0 dX6_noJob_3 rfl ?_
  refine x_getP (pc := 4) dX6_noJob_4 FC6 8 (by decide) rfl fl_X6_17 (LM_ob hM) (LM_p8 hM) ?_
  refine x_iconst (pc := 7) dX6_noJob_7 ?_
  refine x_iald (pc := 8) dX6_noJob_8 (LM_a8 hM) (by decide) (by decide) (by decide) ?_
  refine x_iconst (pc := 9) dX6_noJob_9 ?_
  refine x_isub (pc := 10) dX6_noJob_10 ?_
  refine x_Si (μ := m_X6_noJob) (pc := 11) dX6_noJob_11 h k_X6_in ml_X6_73 ⟨Nat.le_of_ble_eq_true rfl, Nat.le_of_ble_eq_true rfl⟩ ⟨rfl, rfl⟩ ⟨Nat.zero_le _, Nat.zero_le _⟩ rfl (Nat.le_of_ble_eq_true rfl) _ rfl (fun z1 I2 h => ?_)
  obtain ⟨hr3, h⟩ := h
  obtain ⟨hA4, hB5⟩ := h
  refine x_if_ne (pc := 14) 21 dX6_noJob_14 (by decide) hr3 (fun hc => ?_) (fun hc => ?_)
  · have h := hA4 hc
    refine x_iconst (pc := 21) dX6_noJob_21 ?_
    refine x_iconst (pc := 22) dX6_noJob_22 ?_
    refine x_Vi (μ := m_X6_noJob) (pc := 23) dX6_noJob_23 h k_X6_fails ml_X6_174 ⟨Nat.le_of_ble_eq_true rfl, Nat.le_of_ble_eq_true rfl⟩ ⟨rfl, rfl⟩ ⟨Nat.zero_le _, Nat.zero_le _⟩ rfl (LM_ob hM) rfl (Nat.le_of_ble_eq_true rfl) _ rfl (fun z6 I7 h => ?_)
    obtain ⟨hv8, h⟩ := h
    exact x_zret (pc := 26) dX6_noJob_26 rfl hv8 (Nat.le_refl _) (Nat.le_refl _) ⟨_, rfl, rfl, h⟩
  · have h := hB5 hc
    refine x_iconst (pc := 17) dX6_noJob_17 ?_
    refine x_goto (pc := 18) 22 dX6_noJob_18 (by decide) ?_
    refine x_iconst (pc := 22) dX6_noJob_22 ?_
    refine x_Vi (μ := m_X6_noJob) (pc := 23) dX6_noJob_23 h k_X6_fails ml_X6_174 ⟨Nat.le_of_ble_eq_true rfl, Nat.le_of_ble_eq_true rfl⟩ ⟨rfl, rfl⟩ ⟨Nat.zero_le _, Nat.zero_le _⟩ rfl (LM_ob hM) rfl (Nat.le_of_ble_eq_true rfl) _ rfl (fun z9 I10 h => ?_)
    obtain ⟨hv11, h⟩ := h
    exact x_zret (pc := 26) dX6_noJob_26 rfl hv11 (Nat.le_refl _) (Nat.le_refl _) ⟨_, rfl, rfl, h⟩
set_option maxRecDepth 100000 in
set_option maxHeartbeats 4000000 in
theorem t_X6_noOperation_0 {Γ : GG} {P : MP} {I : MM} {R : Int → MM → Prop} {x1 x2 : Int} (hM : LM Γ P)
    (h : (Cl Γ m_X6_noJob [vR 1, vI x1] P I (ri P (fun (z1 : Int) (I2 : MM) => (inR z1) ∧ ((z1 ≠ 0 → R 1 I2) ∧ (z1 = 0 → (Cl Γ m_X6_job [vI x1] P I2 (ri P (fun (z6 : Int) (I7 : MM) => (0 ≤ (z6 + 3)) ∧ ((z6 + 3) < 1655) ∧ (Cl Γ m_X6_in [vI x2, vI 0, vI ((I7 3 ((z6 + 3)).toNat) - 1)] P I7 (ri P (fun (z10 : Int) (I11 : MM) => (inR z10) ∧ ((z10 ≠ 0 → (Cl Γ m_X6_fails [vR 1, vI 0, vI 1] P I11 (ri P (fun (z15 : Int) (I16 : MM) => (inR z15) ∧ ((z15 = 0 → R 0 I16) ∧ (¬ z15 = 0 → R 1 I16)))))) ∧ (z10 = 0 → (Cl Γ m_X6_fails [vR 1, vI 1, vI 1] P I11 (ri P (fun (z20 : Int) (I21 : MM) => (inR z20) ∧ ((z20 = 0 → R 0 I21) ∧ (¬ z20 = 0 → R 1 I21))))))))))))))))))) :
    XM Γ m_X6_noOperation 0 0 0 [(0, vR 1), (1, vI x1), (2, vI x2)] [] P I (ri P R) := by
  refine x_aload_n (pc := 0) 0 dX6_noOperation_0 rfl ?_
  refine x_iload_n (pc := 1) 1 dX6_noOperation_1 rfl ?_
  refine x_Vi (μ := m_X6_noOperation) (pc := 2) dX6_noOperation_2 h k_X6_noJob ml_X6_269 ⟨Nat.le_of_ble_eq_true rfl, Nat.le_of_ble_eq_true rfl⟩ ⟨rfl, rfl⟩ ⟨Nat.zero_le _, Nat.zero_le _⟩ rfl (LM_ob hM) rfl (Nat.le_of_ble_eq_true rfl) _ rfl (fun z1 I2 h => ?_)
  obtain ⟨hr3, h⟩ := h
  obtain ⟨hA4, hB5⟩ := h
  refine x_if_ne (pc := 5) 42 dX6_noOperation_5 (by decide) hr3 (fun hc => ?_) (fun hc => ?_)
  · have h := hA4 hc
    refine x_iconst (pc := 42) dX6_noOperation_42 ?_
    refine x_goto (pc := 43) 47 dX6_noOperation_43 (by decide) ?_
    exact x_zret (pc := 47) dX6_noOperation_47 rfl (by decide) (Nat.le_refl _) (Nat.le_refl _) ⟨_, rfl, rfl, h⟩
  · have h := hB5 hc
    refine x_aload_n (pc := 8) 0 dX6_noOperation_8 rfl ?_
    refine x_iload_n (pc := 9) 2 dX6_noOperation_9 rfl ?_
    refine x_iconst (pc := 10) dX6_noOperation_10 ?_
    refine x_aload_n (pc := 11) 0 dX6_noOperation_11 rfl ?_
    refine x_getP (pc := 12) dX6_noOperation_12 FC6 8 (by decide) rfl fl_X6_17 (LM_ob hM) (LM_p8 hM) ?_
    refine x_iload_n (pc := 15) 1 dX6_noOperation_15 rfl ?_
    refine x_Si (μ := m_X6_noOperation) (pc := 16) dX6_noOperation_16 h k_X6_job ml_X6_147 ⟨Nat.le_of_ble_eq_true rfl, Nat.le_of_ble_eq_true rfl⟩ ⟨rfl, rfl⟩ ⟨Nat.zero_le _, Nat.zero_le _⟩ rfl (Nat.le_of_ble_eq_true rfl) _ rfl (fun z6 I7 h => ?_)
    refine x_iconst (pc := 19) dX6_noOperation_19 ?_
    refine x_iadd (pc := 20) dX6_noOperation_20 ?_
    obtain ⟨hv8, h⟩ := h
    obtain ⟨hv9, h⟩ := h
    refine x_iald (pc := 21) dX6_noOperation_21 (LM_a8 hM) hv8 hv9 (by decide) ?_
    refine x_iconst (pc := 22) dX6_noOperation_22 ?_
    refine x_isub (pc := 23) dX6_noOperation_23 ?_
    refine x_Si (μ := m_X6_noOperation) (pc := 24) dX6_noOperation_24 h k_X6_in ml_X6_73 ⟨Nat.le_of_ble_eq_true rfl, Nat.le_of_ble_eq_true rfl⟩ ⟨rfl, rfl⟩ ⟨Nat.zero_le _, Nat.zero_le _⟩ rfl (Nat.le_of_ble_eq_true rfl) _ rfl (fun z10 I11 h => ?_)
    obtain ⟨hr12, h⟩ := h
    obtain ⟨hA13, hB14⟩ := h
    refine x_if_ne (pc := 27) 34 dX6_noOperation_27 (by decide) hr12 (fun hc => ?_) (fun hc => ?_)
    · have h := hA13 hc
      refine x_iconst (pc := 34) dX6_noOperation_34 ?_
      refine x_iconst (pc := 35) dX6_noOperation_35 ?_
      refine x_Vi (μ := m_X6_noOperation) (pc := 36) dX6_noOperation_36 h k_X6_fails ml_X6_174 ⟨Nat.le_of_ble_eq_true rfl, Nat.le_of_ble_eq_true rfl⟩ ⟨rfl, rfl⟩ ⟨Nat.zero_le _, Nat.zero_le _⟩ rfl (LM_ob hM) rfl (Nat.le_of_ble_eq_true rfl) _ rfl (fun z15 I16 h => ?_)
      obtain ⟨hr17, h⟩ := h
      obtain ⟨hA18, hB19⟩ := h
      refine x_if_eq (pc := 39) 46 dX6_noOperation_39 (by decide) hr17 (fun hc => ?_) (fun hc => ?_)
      · have h := hA18 hc
        refine x_iconst (pc := 46) dX6_noOperation_46 ?_
        exact x_zret (pc := 47) dX6_noOperation_47 rfl (by decide) (Nat.le_refl _) (Nat.le_refl _) ⟨_, rfl, rfl, h⟩
      · have h := hB19 hc
        refine x_iconst (pc := 42) dX6_noOperation_42 ?_
        refine x_goto (pc := 43) 47 dX6_noOperation_43 (by decide) ?_
        exact x_zret (pc := 47) dX6_noOperation_47 rfl (by decide) (Nat.le_refl _) (Nat.le_refl _) ⟨_, rfl, rfl, h⟩
    · have h := hB14 hc
      refine x_iconst (pc := 30) dX6_noOperation_30 ?_
      refine x_goto (pc := 31) 35 dX6_noOperation_31 (by decide) ?_
      refine x_iconst (pc := 35) dX6_noOperation_35 ?_
      refine x_Vi (μ := m_X6_noOperation) (pc := 36) dX6_noOperation_36 h k_X6_fails ml_X6_174 ⟨Nat.le_of_ble_eq_true rfl, Nat.le_of_ble_eq_true rfl⟩ ⟨rfl, rfl⟩ ⟨Nat.zero_le _, Nat.zero_le _⟩ rfl (LM_ob hM) rfl (Nat.le_of_ble_eq_true rfl) _ rfl (fun z20 I21 h => ?_)
      obtain ⟨hr22, h⟩ := h
      obtain ⟨hA23, hB24⟩ := h
      refine x_if_eq (pc := 39) 46 dX6_noOperation_39 (by decide) hr22 (fun hc => ?_) (fun hc => ?_)
      · have h := hA23 hc
        refine x_iconst (pc := 46) dX6_noOperation_46 ?_
        exact x_zret (pc := 47) dX6_noOperation_47 rfl (by decide) (Nat.le_refl _) (Nat.le_refl _) ⟨_, rfl, rfl, h⟩
      · have h := hB24 hc
        refine x_iconst (pc := 42) dX6_noOperation_42 ?_
        refine x_goto (pc := 43) 47 dX6_noOperation_43 (by decide) ?_
        exact x_zret (pc := 47) dX6_noOperation_47 rfl (by decide) (Nat.le_refl _) (Nat.le_refl _) ⟨_, rfl, rfl, h⟩
set_option maxRecDepth 100000 in
set_option maxHeartbeats 4000000 in
theorem t_X6_noSwap_0 {Γ : GG} {P : MP} {I : MM} {R : Int → MM → Prop} {x1 x2 : Int} (hM : LM Γ P)
    (h : (Cl Γ m_X6_noMachine [vR 1, vI x1] P I (ri P (fun (z1 : Int) (I2 : MM) => (inR z1) ∧ ((z1 ≠ 0 → R 1 I2) ∧ (z1 = 0 → (Cl Γ m_X6_machine [vI x1] P I2 (ri P (fun (z6 : Int) (I7 : MM) => (0 ≤ (z6 + 2)) ∧ ((z6 + 2) < 1655) ∧ (Cl Γ m_X6_in [vI x2, vI 0, vI ((I7 3 ((z6 + 2)).toNat) - 2)] P I7 (ri P (fun (z10 : Int) (I11 : MM) => (inR z10) ∧ ((z10 ≠ 0 → (Cl Γ m_X6_fails [vR 1, vI 0, vI 1] P I11 (ri P (fun (z15 : Int) (I16 : MM) => (inR z15) ∧ ((z15 = 0 → R 0 I16) ∧ (¬ z15 = 0 → R 1 I16)))))) ∧ (z10 = 0 → (Cl Γ m_X6_fails [vR 1, vI 1, vI 1] P I11 (ri P (fun (z20 : Int) (I21 : MM) => (inR z20) ∧ ((z20 = 0 → R 0 I21) ∧ (¬ z20 = 0 → R 1 I21))))))))))))))))))) :
    XM Γ m_X6_noSwap 0 0 0 [(0, vR 1), (1, vI x1), (2, vI x2)] [] P I (ri P R) := by
  refine x_aload_n (pc := 0) 0 dX6_noSwap_0 rfl ?_
  refine x_iload_n (pc := 1) 1 dX6_noSwap_1 rfl ?_
  refine x_Vi (μ := m_X6_noSwap) (pc := 2) dX6_noSwap_2 h k_X6_noMachine ml_X6_272 ⟨Nat.le_of_ble_eq_true rfl, Nat.le_of_ble_eq_true rfl⟩ ⟨rfl, rfl⟩ ⟨Nat.zero_le _, Nat.zero_le _⟩ rfl (LM_ob hM) rfl (Nat.le_of_ble_eq_true rfl) _ rfl (fun z1 I2 h => ?_)
  obtain ⟨hr3, h⟩ := h
  obtain ⟨hA4, hB5⟩ := h
  refine x_if_ne (pc := 5) 42 dX6_noSwap_5 (by decide) hr3 (fun hc => ?_) (fun hc => ?_)
  · have h := hA4 hc
    refine x_iconst (pc := 42) dX6_noSwap_42 ?_
    refine x_goto (pc := 43) 47 dX6_noSwap_43 (by decide) ?_
    exact x_zret (pc := 47) dX6_noSwap_47 rfl (by decide) (Nat.le_refl _) (Nat.le_refl _) ⟨_, rfl, rfl, h⟩
  · have h := hB5 hc
    refine x_aload_n (pc := 8) 0 dX6_noSwap_8 rfl ?_
    refine x_iload_n (pc := 9) 2 dX6_noSwap_9 rfl ?_
    refine x_iconst (pc := 10) dX6_noSwap_10 ?_
    refine x_aload_n (pc := 11) 0 dX6_noSwap_11 rfl ?_
    refine x_getP (pc := 12) dX6_noSwap_12 FC6 8 (by decide) rfl fl_X6_17 (LM_ob hM) (LM_p8 hM) ?_
    refine x_iload_n (pc := 15) 1 dX6_noSwap_15 rfl ?_
    refine x_Si (μ := m_X6_noSwap) (pc := 16) dX6_noSwap_16 h k_X6_machine ml_X6_158 ⟨Nat.le_of_ble_eq_true rfl, Nat.le_of_ble_eq_true rfl⟩ ⟨rfl, rfl⟩ ⟨Nat.zero_le _, Nat.zero_le _⟩ rfl (Nat.le_of_ble_eq_true rfl) _ rfl (fun z6 I7 h => ?_)
    refine x_iconst (pc := 19) dX6_noSwap_19 ?_
    refine x_iadd (pc := 20) dX6_noSwap_20 ?_
    obtain ⟨hv8, h⟩ := h
    obtain ⟨hv9, h⟩ := h
    refine x_iald (pc := 21) dX6_noSwap_21 (LM_a8 hM) hv8 hv9 (by decide) ?_
    refine x_iconst (pc := 22) dX6_noSwap_22 ?_
    refine x_isub (pc := 23) dX6_noSwap_23 ?_
    refine x_Si (μ := m_X6_noSwap) (pc := 24) dX6_noSwap_24 h k_X6_in ml_X6_73 ⟨Nat.le_of_ble_eq_true rfl, Nat.le_of_ble_eq_true rfl⟩ ⟨rfl, rfl⟩ ⟨Nat.zero_le _, Nat.zero_le _⟩ rfl (Nat.le_of_ble_eq_true rfl) _ rfl (fun z10 I11 h => ?_)
    obtain ⟨hr12, h⟩ := h
    obtain ⟨hA13, hB14⟩ := h
    refine x_if_ne (pc := 27) 34 dX6_noSwap_27 (by decide) hr12 (fun hc => ?_) (fun hc => ?_)
    · have h := hA13 hc
      refine x_iconst (pc := 34) dX6_noSwap_34 ?_
      refine x_iconst (pc := 35) dX6_noSwap_35 ?_
      refine x_Vi (μ := m_X6_noSwap) (pc := 36) dX6_noSwap_36 h k_X6_fails ml_X6_174 ⟨Nat.le_of_ble_eq_true rfl, Nat.le_of_ble_eq_true rfl⟩ ⟨rfl, rfl⟩ ⟨Nat.zero_le _, Nat.zero_le _⟩ rfl (LM_ob hM) rfl (Nat.le_of_ble_eq_true rfl) _ rfl (fun z15 I16 h => ?_)
      obtain ⟨hr17, h⟩ := h
      obtain ⟨hA18, hB19⟩ := h
      refine x_if_eq (pc := 39) 46 dX6_noSwap_39 (by decide) hr17 (fun hc => ?_) (fun hc => ?_)
      · have h := hA18 hc
        refine x_iconst (pc := 46) dX6_noSwap_46 ?_
        exact x_zret (pc := 47) dX6_noSwap_47 rfl (by decide) (Nat.le_refl _) (Nat.le_refl _) ⟨_, rfl, rfl, h⟩
      · have h := hB19 hc
        refine x_iconst (pc := 42) dX6_noSwap_42 ?_
        refine x_goto (pc := 43) 47 dX6_noSwap_43 (by decide) ?_
        exact x_zret (pc := 47) dX6_noSwap_47 rfl (by decide) (Nat.le_refl _) (Nat.le_refl _) ⟨_, rfl, rfl, h⟩
    · have h := hB14 hc
      refine x_iconst (pc := 30) dX6_noSwap_30 ?_
      refine x_goto (pc := 31) 35 dX6_noSwap_31 (by decide) ?_
      refine x_iconst (pc := 35) dX6_noSwap_35 ?_
      refine x_Vi (μ := m_X6_noSwap) (pc := 36) dX6_noSwap_36 h k_X6_fails ml_X6_174 ⟨Nat.le_of_ble_eq_true rfl, Nat.le_of_ble_eq_true rfl⟩ ⟨rfl, rfl⟩ ⟨Nat.zero_le _, Nat.zero_le _⟩ rfl (LM_ob hM) rfl (Nat.le_of_ble_eq_true rfl) _ rfl (fun z20 I21 h => ?_)
      obtain ⟨hr22, h⟩ := h
      obtain ⟨hA23, hB24⟩ := h
      refine x_if_eq (pc := 39) 46 dX6_noSwap_39 (by decide) hr22 (fun hc => ?_) (fun hc => ?_)
      · have h := hA23 hc
        refine x_iconst (pc := 46) dX6_noSwap_46 ?_
        exact x_zret (pc := 47) dX6_noSwap_47 rfl (by decide) (Nat.le_refl _) (Nat.le_refl _) ⟨_, rfl, rfl, h⟩
      · have h := hB24 hc
        refine x_iconst (pc := 42) dX6_noSwap_42 ?_
        refine x_goto (pc := 43) 47 dX6_noSwap_43 (by decide) ?_
        exact x_zret (pc := 47) dX6_noSwap_47 rfl (by decide) (Nat.le_refl _) (Nat.le_refl _) ⟨_, rfl, rfl, h⟩
set_option maxRecDepth 100000 in
set_option maxHeartbeats 4000000 in
theorem t_X6_machineCount_0 {Γ : GG} {P : MP} {I : MM} {R : Int → MM → Prop} (hM : LM Γ P)
    (h : (∀ I1 : MM, I1 = up2 I 1 0 0 → R (I1 3 0) I1)) :
    XM Γ m_X6_machineCount 0 0 0 [(0, vR 1)] [] P I (ri P R) := by
  refine x_aload_n (pc := 0) 0 dX6_machineCount_0 rfl ?_
  refine x_iconst (pc := 1) dX6_machineCount_1 ?_
  refine x_putI (pc := 2) dX6_machineCount_2 FC6 0 (by decide) rfl rfl fl_X6_51 (LM_ob hM) ?_
  refine x_nmI (fun I1 eI1 => ?_)
  have h := h I1 eI1
  refine x_aload_n (pc := 5) 0 dX6_machineCount_5 rfl ?_
  refine x_getP (pc := 6) dX6_machineCount_6 FC6 8 (by decide) rfl fl_X6_17 (LM_ob hM) (LM_p8 hM) ?_
  refine x_iconst (pc := 9) dX6_machineCount_9 ?_
  refine x_iald (pc := 10) dX6_machineCount_10 (LM_a8 hM) (by decide) (by decide) (by decide) ?_
  exact x_iret (pc := 11) dX6_machineCount_11 rfl (Nat.le_refl _) (Nat.le_refl _) ⟨_, rfl, rfl, h⟩
set_option maxRecDepth 100000 in
set_option maxHeartbeats 4000000 in
theorem t_X6_jobCount_0 {Γ : GG} {P : MP} {I : MM} {R : Int → MM → Prop} (hM : LM Γ P)
    (h : (∀ I1 : MM, I1 = up2 I 1 0 0 → R (I1 3 2) I1)) :
    XM Γ m_X6_jobCount 0 0 0 [(0, vR 1)] [] P I (ri P R) := by
  refine x_aload_n (pc := 0) 0 dX6_jobCount_0 rfl ?_
  refine x_iconst (pc := 1) dX6_jobCount_1 ?_
  refine x_putI (pc := 2) dX6_jobCount_2 FC6 0 (by decide) rfl rfl fl_X6_51 (LM_ob hM) ?_
  refine x_nmI (fun I1 eI1 => ?_)
  have h := h I1 eI1
  refine x_aload_n (pc := 5) 0 dX6_jobCount_5 rfl ?_
  refine x_getP (pc := 6) dX6_jobCount_6 FC6 8 (by decide) rfl fl_X6_17 (LM_ob hM) (LM_p8 hM) ?_
  refine x_iconst (pc := 9) dX6_jobCount_9 ?_
  refine x_iald (pc := 10) dX6_jobCount_10 (LM_a8 hM) (by decide) (by decide) (by decide) ?_
  exact x_iret (pc := 11) dX6_jobCount_11 rfl (Nat.le_refl _) (Nat.le_refl _) ⟨_, rfl, rfl, h⟩
set_option maxRecDepth 100000 in
set_option maxHeartbeats 4000000 in
theorem t_X6_operationCount_0 {Γ : GG} {P : MP} {I : MM} {R : Int → MM → Prop} {x1 : Int} (hM : LM Γ P)
    (h : (∀ I1 : MM, I1 = up2 I 1 0 0 → (Cl Γ m_X6_noJob [vR 1, vI x1] P I1 (ri P (fun (z2 : Int) (I3 : MM) => (inR z2) ∧ ((z2 = 0 → (Cl Γ m_X6_job [vI x1] P I3 (ri P (fun (z7 : Int) (I8 : MM) => (0 ≤ (z7 + 3)) ∧ ((z7 + 3) < 1655) ∧ R (I8 3 ((z7 + 3)).toNat) I8)))) ∧ (¬ z2 = 0 → R 0 I3))))))) :
    XM Γ m_X6_operationCount 0 0 0 [(0, vR 1), (1, vI x1)] [] P I (ri P R) := by
  refine x_aload_n (pc := 0) 0 dX6_operationCount_0 rfl ?_
  refine x_iconst (pc := 1) dX6_operationCount_1 ?_
  refine x_putI (pc := 2) dX6_operationCount_2 FC6 0 (by decide) rfl rfl fl_X6_51 (LM_ob hM) ?_
  refine x_nmI (fun I1 eI1 => ?_)
  have h := h I1 eI1
  refine x_aload_n (pc := 5) 0 dX6_operationCount_5 rfl ?_
  refine x_iload_n (pc := 6) 1 dX6_operationCount_6 rfl ?_
  refine x_Vi (μ := m_X6_operationCount) (pc := 7) dX6_operationCount_7 h k_X6_noJob ml_X6_269 ⟨Nat.le_of_ble_eq_true rfl, Nat.le_of_ble_eq_true rfl⟩ ⟨rfl, rfl⟩ ⟨Nat.zero_le _, Nat.zero_le _⟩ rfl (LM_ob hM) rfl (Nat.le_of_ble_eq_true rfl) _ rfl (fun z2 I3 h => ?_)
  obtain ⟨hr4, h⟩ := h
  obtain ⟨hA5, hB6⟩ := h
  refine x_if_eq (pc := 10) 17 dX6_operationCount_10 (by decide) hr4 (fun hc => ?_) (fun hc => ?_)
  · have h := hA5 hc
    refine x_aload_n (pc := 17) 0 dX6_operationCount_17 rfl ?_
    refine x_getP (pc := 18) dX6_operationCount_18 FC6 8 (by decide) rfl fl_X6_17 (LM_ob hM) (LM_p8 hM) ?_
    refine x_iload_n (pc := 21) 1 dX6_operationCount_21 rfl ?_
    refine x_Si (μ := m_X6_operationCount) (pc := 22) dX6_operationCount_22 h k_X6_job ml_X6_147 ⟨Nat.le_of_ble_eq_true rfl, Nat.le_of_ble_eq_true rfl⟩ ⟨rfl, rfl⟩ ⟨Nat.zero_le _, Nat.zero_le _⟩ rfl (Nat.le_of_ble_eq_true rfl) _ rfl (fun z7 I8 h => ?_)
    refine x_iconst (pc := 25) dX6_operationCount_25 ?_
    refine x_iadd (pc := 26) dX6_operationCount_26 ?_
    obtain ⟨hv9, h⟩ := h
    obtain ⟨hv10, h⟩ := h
    refine x_iald (pc := 27) dX6_operationCount_27 (LM_a8 hM) hv9 hv10 (by decide) ?_
    exact x_iret (pc := 28) dX6_operationCount_28 rfl (Nat.le_refl _) (Nat.le_refl _) ⟨_, rfl, rfl, h⟩
  · have h := hB6 hc
    refine x_iconst (pc := 13) dX6_operationCount_13 ?_
    refine x_goto (pc := 14) 28 dX6_operationCount_14 (by decide) ?_
    exact x_iret (pc := 28) dX6_operationCount_28 rfl (Nat.le_refl _) (Nat.le_refl _) ⟨_, rfl, rfl, h⟩
