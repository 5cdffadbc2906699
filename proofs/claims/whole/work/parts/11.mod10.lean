set_option maxRecDepth 100000 in
set_option maxHeartbeats 4000000 in
theorem t_X6_criticalLength_0 {Γ : GG} {P : MP} {I : MM} {R : Int → MM → Prop} (hM : LM Γ P)
    (h : (∀ I1 : MM, I1 = up2 I 1 0 0 → (Cl Γ m_X6_findPath [vR 1] P I1 (rv P (fun (I2 : MM) => R (I2 1 24) I2))))) :
    XM Γ m_X6_criticalLength 0 0 0 [(0, vR 1)] [] P I (ri P R) := by
  refine x_aload_n (pc := 0) 0 dX6_criticalLength_0 rfl ?_
  refine x_iconst (pc := 1) dX6_criticalLength_1 ?_
  refine x_putI (pc := 2) dX6_criticalLength_2 FC6 0 (by decide) rfl rfl fl_X6_51 (LM_ob hM) ?_
  refine x_nmI (fun I1 eI1 => ?_)
  have h := h I1 eI1
  refine x_aload_n (pc := 5) 0 dX6_criticalLength_5 rfl ?_
  refine x_Vv (μ := m_X6_criticalLength) (pc := 6) dX6_criticalLength_6 h k_X6_findPath ml_X6_291 ⟨Nat.le_of_ble_eq_true rfl, Nat.le_of_ble_eq_true rfl⟩ ⟨rfl, rfl⟩ ⟨Nat.zero_le _, Nat.zero_le _⟩ rfl (LM_ob hM) rfl (Nat.le_of_ble_eq_true rfl) _ rfl (fun I2 h => ?_)
  refine x_aload_n (pc := 9) 0 dX6_criticalLength_9 rfl ?_
  refine x_getI (pc := 10) dX6_criticalLength_10 FC6 24 (by decide) rfl fl_X6_263 (LM_ob hM) ?_
  exact x_iret (pc := 13) dX6_criticalLength_13 rfl (Nat.le_refl _) (Nat.le_refl _) ⟨_, rfl, rfl, h⟩
set_option maxRecDepth 100000 in
set_option maxHeartbeats 4000000 in
theorem t_X6_critical_0 {Γ : GG} {P : MP} {I : MM} {R : Int → MM → Prop} {x1 : Int} (hM : LM Γ P)
    (h : (∀ I1 : MM, I1 = up2 I 1 0 0 → (Cl Γ m_X6_findPath [vR 1] P I1 (rv P (fun (I2 : MM) => (Cl Γ m_X6_in [vI x1, vI 0, vI ((I2 1 24) - 1)] P I2 (ri P (fun (z3 : Int) (I4 : MM) => (inR z3) ∧ ((z3 ≠ 0 → (Cl Γ m_X6_fails [vR 1, vI 0, vI 1] P I4 (ri P (fun (z8 : Int) (I9 : MM) => (inR z8) ∧ ((z8 = 0 → (0 ≤ x1) ∧ (x1 < 36) ∧ (Cl Γ m_X6_told [vI (I9 12 (x1).toNat)] P I9 (ri P (fun (z15 : Int) (I16 : MM) => R z15 I16)))) ∧ (¬ z8 = 0 → R 0 I9)))))) ∧ (z3 = 0 → (Cl Γ m_X6_fails [vR 1, vI 1, vI 1] P I4 (ri P (fun (z17 : Int) (I18 : MM) => (inR z17) ∧ ((z17 = 0 → (0 ≤ x1) ∧ (x1 < 36) ∧ (Cl Γ m_X6_told [vI (I18 12 (x1).toNat)] P I18 (ri P (fun (z24 : Int) (I25 : MM) => R z24 I25)))) ∧ (¬ z17 = 0 → R 0 I18))))))))))))))) :
    XM Γ m_X6_critical 0 0 0 [(0, vR 1), (1, vI x1)] [] P I (ri P R) := by
  refine x_aload_n (pc := 0) 0 dX6_critical_0 rfl ?_
  refine x_iconst (pc := 1) dX6_critical_1 ?_
  refine x_putI (pc := 2) dX6_critical_2 FC6 0 (by decide) rfl rfl fl_X6_51 (LM_ob hM) ?_
  refine x_nmI (fun I1 eI1 => ?_)
  have h := h I1 eI1
  refine x_aload_n (pc := 5) 0 dX6_critical_5 rfl ?_
  refine x_Vv (μ := m_X6_critical) (pc := 6) dX6_critical_6 h k_X6_findPath ml_X6_291 ⟨Nat.le_of_ble_eq_true rfl, Nat.le_of_ble_eq_true rfl⟩ ⟨rfl, rfl⟩ ⟨Nat.zero_le _, Nat.zero_le _⟩ rfl (LM_ob hM) rfl (Nat.le_of_ble_eq_true rfl) _ rfl (fun I2 h => ?_)
  refine x_aload_n (pc := 9) 0 dX6_critical_9 rfl ?_
  refine x_iload_n (pc := 10) 1 dX6_critical_10 rfl ?_
  refine x_iconst (pc := 11) dX6_critical_11 ?_
  refine x_aload_n (pc := 12) 0 dX6_critical_12 rfl ?_
  refine x_getI (pc := 13) dX6_critical_13 FC6 24 (by decide) rfl fl_X6_263 (LM_ob hM) ?_
  refine x_iconst (pc := 16) dX6_critical_16 ?_
  refine x_isub (pc := 17) dX6_critical_17 ?_
  refine x_Si (μ := m_X6_critical) (pc := 18) dX6_critical_18 h k_X6_in ml_X6_73 ⟨Nat.le_of_ble_eq_true rfl, Nat.le_of_ble_eq_true rfl⟩ ⟨rfl, rfl⟩ ⟨Nat.zero_le _, Nat.zero_le _⟩ rfl (Nat.le_of_ble_eq_true rfl) _ rfl (fun z3 I4 h => ?_)
  obtain ⟨hr5, h⟩ := h
  obtain ⟨hA6, hB7⟩ := h
  refine x_if_ne (pc := 21) 28 dX6_critical_21 (by decide) hr5 (fun hc => ?_) (fun hc => ?_)
  · have h := hA6 hc
    refine x_iconst (pc := 28) dX6_critical_28 ?_
    refine x_iconst (pc := 29) dX6_critical_29 ?_
    refine x_Vi (μ := m_X6_critical) (pc := 30) dX6_critical_30 h k_X6_fails ml_X6_174 ⟨Nat.le_of_ble_eq_true rfl, Nat.le_of_ble_eq_true rfl⟩ ⟨rfl, rfl⟩ ⟨Nat.zero_le _, Nat.zero_le _⟩ rfl (LM_ob hM) rfl (Nat.le_of_ble_eq_true rfl) _ rfl (fun z8 I9 h => ?_)
    obtain ⟨hr10, h⟩ := h
    obtain ⟨hA11, hB12⟩ := h
    refine x_if_eq (pc := 33) 40 dX6_critical_33 (by decide) hr10 (fun hc => ?_) (fun hc => ?_)
    · have h := hA11 hc
      refine x_aload_n (pc := 40) 0 dX6_critical_40 rfl ?_
      refine x_getP (pc := 41) dX6_critical_41 FC6 23 (by decide) rfl fl_X6_48 (LM_ob hM) (LM_p23 hM) ?_
      refine x_iload_n (pc := 44) 1 dX6_critical_44 rfl ?_
      obtain ⟨hv13, h⟩ := h
      obtain ⟨hv14, h⟩ := h
      refine x_iald (pc := 45) dX6_critical_45 (LM_a23 hM) hv13 hv14 (by decide) ?_
      refine x_Si (μ := m_X6_critical) (pc := 46) dX6_critical_46 h k_X6_told ml_X6_282 ⟨Nat.le_of_ble_eq_true rfl, Nat.le_of_ble_eq_true rfl⟩ ⟨rfl, rfl⟩ ⟨Nat.zero_le _, Nat.zero_le _⟩ rfl (Nat.le_of_ble_eq_true rfl) _ rfl (fun z15 I16 h => ?_)
      exact x_iret (pc := 49) dX6_critical_49 rfl (Nat.le_refl _) (Nat.le_refl _) ⟨_, rfl, rfl, h⟩
    · have h := hB12 hc
      refine x_iconst (pc := 36) dX6_critical_36 ?_
      refine x_goto (pc := 37) 49 dX6_critical_37 (by decide) ?_
      exact x_iret (pc := 49) dX6_critical_49 rfl (Nat.le_refl _) (Nat.le_refl _) ⟨_, rfl, rfl, h⟩
  · have h := hB7 hc
    refine x_iconst (pc := 24) dX6_critical_24 ?_
    refine x_goto (pc := 25) 29 dX6_critical_25 (by decide) ?_
    refine x_iconst (pc := 29) dX6_critical_29 ?_
    refine x_Vi (μ := m_X6_critical) (pc := 30) dX6_critical_30 h k_X6_fails ml_X6_174 ⟨Nat.le_of_ble_eq_true rfl, Nat.le_of_ble_eq_true rfl⟩ ⟨rfl, rfl⟩ ⟨Nat.zero_le _, Nat.zero_le _⟩ rfl (LM_ob hM) rfl (Nat.le_of_ble_eq_true rfl) _ rfl (fun z17 I18 h => ?_)
    obtain ⟨hr19, h⟩ := h
    obtain ⟨hA20, hB21⟩ := h
    refine x_if_eq (pc := 33) 40 dX6_critical_33 (by decide) hr19 (fun hc => ?_) (fun hc => ?_)
    · have h := hA20 hc
      refine x_aload_n (pc := 40) 0 dX6_critical_40 rfl ?_
      refine x_getP (pc := 41) dX6_critical_41 FC6 23 (by decide) rfl fl_X6_48 (LM_ob hM) (LM_p23 hM) ?_
      refine x_iload_n (pc := 44) 1 dX6_critical_44 rfl ?_
      obtain ⟨hv22, h⟩ := h
      obtain ⟨hv23, h⟩ := h
      refine x_iald (pc := 45) dX6_critical_45 (LM_a23 hM) hv22 hv23 (by decide) ?_
      refine x_Si (μ := m_X6_critical) (pc := 46) dX6_critical_46 h k_X6_told ml_X6_282 ⟨Nat.le_of_ble_eq_true rfl, Nat.le_of_ble_eq_true rfl⟩ ⟨rfl, rfl⟩ ⟨Nat.zero_le _, Nat.zero_le _⟩ rfl (Nat.le_of_ble_eq_true rfl) _ rfl (fun z24 I25 h => ?_)
      exact x_iret (pc := 49) dX6_critical_49 rfl (Nat.le_refl _) (Nat.le_refl _) ⟨_, rfl, rfl, h⟩
    · have h := hB21 hc
      refine x_iconst (pc := 36) dX6_critical_36 ?_
      refine x_goto (pc := 37) 49 dX6_critical_37 (by decide) ?_
      exact x_iret (pc := 49) dX6_critical_49 rfl (Nat.le_refl _) (Nat.le_refl _) ⟨_, rfl, rfl, h⟩
set_option maxRecDepth 100000 in
set_option maxHeartbeats 4000000 in
theorem t_X6_blockCount_0 {Γ : GG} {P : MP} {I : MM} {R : Int → MM → Prop} (hM : LM Γ P)
    (h : (∀ I1 : MM, I1 = up2 I 1 0 0 → (Cl Γ m_X6_findPath [vR 1] P I1 (rv P (fun (I2 : MM) => XM Γ m_X6_blockCount 0 0 13 [(0, vR 1), (1, vI 0), (2, vI 0)] [] P I2 (ri P R)))))) :
    XM Γ m_X6_blockCount 0 0 0 [(0, vR 1)] [] P I (ri P R) := by
  refine x_aload_n (pc := 0) 0 dX6_blockCount_0 rfl ?_
  refine x_iconst (pc := 1) dX6_blockCount_1 ?_
  refine x_putI (pc := 2) dX6_blockCount_2 FC6 0 (by decide) rfl rfl fl_X6_51 (LM_ob hM) ?_
  refine x_nmI (fun I1 eI1 => ?_)
  have h := h I1 eI1
  refine x_aload_n (pc := 5) 0 dX6_blockCount_5 rfl ?_
  refine x_Vv (μ := m_X6_blockCount) (pc := 6) dX6_blockCount_6 h k_X6_findPath ml_X6_291 ⟨Nat.le_of_ble_eq_true rfl, Nat.le_of_ble_eq_true rfl⟩ ⟨rfl, rfl⟩ ⟨Nat.zero_le _, Nat.zero_le _⟩ rfl (LM_ob hM) rfl (Nat.le_of_ble_eq_true rfl) _ rfl (fun I2 h => ?_)
  refine x_iconst (pc := 9) dX6_blockCount_9 ?_
  refine x_istore_n (pc := 10) (al' := [(0, vR 1), (1, vI 0)]) dX6_blockCount_10 rfl rfl (by decide) ?_
  refine x_iconst (pc := 11) dX6_blockCount_11 ?_
  refine x_istore_n (pc := 12) (al' := [(0, vR 1), (1, vI 0), (2, vI 0)]) dX6_blockCount_12 rfl rfl (by decide) ?_
  exact x_sub [0, 1, 2] rfl h
set_option maxRecDepth 100000 in
set_option maxHeartbeats 4000000 in
theorem t_X6_blockCount_13 {Γ : GG} {P : MP} {I : MM} {R : Int → MM → Prop} {x1 x2 : Int} (hM : LM Γ P)
    (h : (inR x2) ∧ (inR (I 1 24)) ∧ (((I 1 24) ≤ x2 → R x1 I) ∧ (¬ (I 1 24) ≤ x2 → ((x2 = 0 → (∀ x7 : Int, x7 = (x1 + 1) → XM Γ m_X6_blockCount 0 0 13 [(0, vR 1), (1, vI x7), (2, vI (x2 + 1))] [] P I (ri P R))) ∧ (¬ x2 = 0 → (0 ≤ x2) ∧ (x2 < 36) ∧ (Cl Γ m_X6_machineOf [vR 1, vI (I 12 (x2).toNat)] P I (ri P (fun (z10 : Int) (I11 : MM) => (0 ≤ (x2 - 1)) ∧ ((x2 - 1) < 36) ∧ (Cl Γ m_X6_machineOf [vR 1, vI (I11 12 ((x2 - 1)).toNat)] P I11 (ri P (fun (z14 : Int) (I15 : MM) => (inR z10) ∧ (inR z14) ∧ ((z10 = z14 → (∀ x20 : Int, x20 = (x1 + 0) → XM Γ m_X6_blockCount 0 0 13 [(0, vR 1), (1, vI x20), (2, vI (x2 + 1))] [] P I15 (ri P R))) ∧ (¬ z10 = z14 → (∀ x21 : Int, x21 = (x1 + 1) → XM Γ m_X6_blockCount 0 0 13 [(0, vR 1), (1, vI x21), (2, vI (x2 + 1))] [] P I15 (ri P R))))))))))))))) :
    XM Γ m_X6_blockCount 0 0 13 [(0, vR 1), (1, vI x1), (2, vI x2)] [] P I (ri P R) := by
  refine x_iload_n (pc := 13) 2 dX6_blockCount_13 rfl ?_
  refine x_aload_n (pc := 14) 0 dX6_blockCount_14 rfl ?_
  refine x_getI (pc := 15) dX6_blockCount_15 FC6 24 (by decide) rfl fl_X6_263 (LM_ob hM) ?_
  obtain ⟨hr1, h⟩ := h
  obtain ⟨hr2, h⟩ := h
  obtain ⟨hA3, hB4⟩ := h
  refine x_icmp_ge (pc := 18) 64 dX6_blockCount_18 (by decide) hr1 hr2 (fun hc => ?_) (fun hc => ?_)
  · have h := hA3 hc
    refine x_iload_n (pc := 64) 1 dX6_blockCount_64 rfl ?_
    exact x_iret (pc := 65) dX6_blockCount_65 rfl (Nat.le_refl _) (Nat.le_refl _) ⟨_, rfl, rfl, h⟩
  · have h := hB4 hc
    refine x_iload_n (pc := 21) 1 dX6_blockCount_21 rfl ?_
    refine x_iload_n (pc := 22) 2 dX6_blockCount_22 rfl ?_
    obtain ⟨hA5, hB6⟩ := h
    refine x_if_eq (pc := 23) 51 dX6_blockCount_23 (by decide) hr1 (fun hc => ?_) (fun hc => ?_)
    · have h := hA5 hc
      refine x_iconst (pc := 51) dX6_blockCount_51 ?_
      refine x_goto (pc := 52) 56 dX6_blockCount_52 (by decide) ?_
      refine x_iadd (pc := 56) dX6_blockCount_56 ?_
      refine x_nmT (fun x7 ex7 => ?_)
      have h := h x7 ex7
      refine x_istore_n (pc := 57) (al' := [(0, vR 1), (1, vI x7), (2, vI x2)]) dX6_blockCount_57 rfl rfl (by decide) ?_
      refine x_iinc (pc := 58) (al' := [(0, vR 1), (1, vI x7), (2, vI (x2 + 1))]) 2 dX6_blockCount_58 rfl rfl rfl (by decide) ?_
      refine x_goto (pc := 61) 13 dX6_blockCount_61 (by decide) ?_
      exact x_sub [0, 1, 2] rfl h
    · have h := hB6 hc
      refine x_aload_n (pc := 26) 0 dX6_blockCount_26 rfl ?_
      refine x_aload_n (pc := 27) 0 dX6_blockCount_27 rfl ?_
      refine x_getP (pc := 28) dX6_blockCount_28 FC6 23 (by decide) rfl fl_X6_48 (LM_ob hM) (LM_p23 hM) ?_
      refine x_iload_n (pc := 31) 2 dX6_blockCount_31 rfl ?_
      obtain ⟨hv8, h⟩ := h
      obtain ⟨hv9, h⟩ := h
      refine x_iald (pc := 32) dX6_blockCount_32 (LM_a23 hM) hv8 hv9 (by decide) ?_
      refine x_Vi (μ := m_X6_blockCount) (pc := 33) dX6_blockCount_33 h k_X6_machineOf ml_X6_193 ⟨Nat.le_of_ble_eq_true rfl, Nat.le_of_ble_eq_true rfl⟩ ⟨rfl, rfl⟩ ⟨Nat.zero_le _, Nat.zero_le _⟩ rfl (LM_ob hM) rfl (Nat.le_of_ble_eq_true rfl) _ rfl (fun z10 I11 h => ?_)
      refine x_aload_n (pc := 36) 0 dX6_blockCount_36 rfl ?_
      refine x_aload_n (pc := 37) 0 dX6_blockCount_37 rfl ?_
      refine x_getP (pc := 38) dX6_blockCount_38 FC6 23 (by decide) rfl fl_X6_48 (LM_ob hM) (LM_p23 hM) ?_
      refine x_iload_n (pc := 41) 2 dX6_blockCount_41 rfl ?_
      refine x_iconst (pc := 42) dX6_blockCount_42 ?_
      refine x_isub (pc := 43) dX6_blockCount_43 ?_
      obtain ⟨hv12, h⟩ := h
      obtain ⟨hv13, h⟩ := h
      refine x_iald (pc := 44) dX6_blockCount_44 (LM_a23 hM) hv12 hv13 (by decide) ?_
      refine x_Vi (μ := m_X6_blockCount) (pc := 45) dX6_blockCount_45 h k_X6_machineOf ml_X6_193 ⟨Nat.le_of_ble_eq_true rfl, Nat.le_of_ble_eq_true rfl⟩ ⟨rfl, rfl⟩ ⟨Nat.zero_le _, Nat.zero_le _⟩ rfl (LM_ob hM) rfl (Nat.le_of_ble_eq_true rfl) _ rfl (fun z14 I15 h => ?_)
      obtain ⟨hr16, h⟩ := h
      obtain ⟨hr17, h⟩ := h
      obtain ⟨hA18, hB19⟩ := h
      refine x_icmp_eq (pc := 48) 55 dX6_blockCount_48 (by decide) hr16 hr17 (fun hc => ?_) (fun hc => ?_)
      · have h := hA18 hc
        refine x_iconst (pc := 55) dX6_blockCount_55 ?_
        refine x_iadd (pc := 56) dX6_blockCount_56 ?_
        refine x_nmT (fun x20 ex20 => ?_)
        have h := h x20 ex20
        refine x_istore_n (pc := 57) (al' := [(0, vR 1), (1, vI x20), (2, vI x2)]) dX6_blockCount_57 rfl rfl (by decide) ?_
        refine x_iinc (pc := 58) (al' := [(0, vR 1), (1, vI x20), (2, vI (x2 + 1))]) 2 dX6_blockCount_58 rfl rfl rfl (by decide) ?_
        refine x_goto (pc := 61) 13 dX6_blockCount_61 (by decide) ?_
        exact x_sub [0, 1, 2] rfl h
      · have h := hB19 hc
        refine x_iconst (pc := 51) dX6_blockCount_51 ?_
        refine x_goto (pc := 52) 56 dX6_blockCount_52 (by decide) ?_
        refine x_iadd (pc := 56) dX6_blockCount_56 ?_
        refine x_nmT (fun x21 ex21 => ?_)
        have h := h x21 ex21
        refine x_istore_n (pc := 57) (al' := [(0, vR 1), (1, vI x21), (2, vI x2)]) dX6_blockCount_57 rfl rfl (by decide) ?_
        refine x_iinc (pc := 58) (al' := [(0, vR 1), (1, vI x21), (2, vI (x2 + 1))]) 2 dX6_blockCount_58 rfl rfl rfl (by decide) ?_
        refine x_goto (pc := 61) 13 dX6_blockCount_61 (by decide) ?_
        exact x_sub [0, 1, 2] rfl h
set_option maxRecDepth 100000 in
set_option maxHeartbeats 4000000 in
theorem t_X6_longestBlock_0 {Γ : GG} {P : MP} {I : MM} {R : Int → MM → Prop} (hM : LM Γ P)
    (h : (∀ I1 : MM, I1 = up2 I 1 0 0 → (Cl Γ m_X6_findPath [vR 1] P I1 (rv P (fun (I2 : MM) => XM Γ m_X6_longestBlock 0 0 15 [(0, vR 1), (1, vI 0), (2, vI 0), (3, vI 0)] [] P I2 (ri P R)))))) :
    XM Γ m_X6_longestBlock 0 0 0 [(0, vR 1)] [] P I (ri P R) := by
  refine x_aload_n (pc := 0) 0 dX6_longestBlock_0 rfl ?_
  refine x_iconst (pc := 1) dX6_longestBlock_1 ?_
  refine x_putI (pc := 2) dX6_longestBlock_2 FC6 0 (by decide) rfl rfl fl_X6_51 (LM_ob hM) ?_
  refine x_nmI (fun I1 eI1 => ?_)
  have h := h I1 eI1
  refine x_aload_n (pc := 5) 0 dX6_longestBlock_5 rfl ?_
  refine x_Vv (μ := m_X6_longestBlock) (pc := 6) dX6_longestBlock_6 h k_X6_findPath ml_X6_291 ⟨Nat.le_of_ble_eq_true rfl, Nat.le_of_ble_eq_true rfl⟩ ⟨rfl, rfl⟩ ⟨Nat.zero_le _, Nat.zero_le _⟩ rfl (LM_ob hM) rfl (Nat.le_of_ble_eq_true rfl) _ rfl (fun I2 h => ?_)
  refine x_iconst (pc := 9) dX6_longestBlock_9 ?_
  refine x_istore_n (pc := 10) (al' := [(0, vR 1), (1, vI 0)]) dX6_longestBlock_10 rfl rfl (by decide) ?_
  refine x_iconst (pc := 11) dX6_longestBlock_11 ?_
  refine x_istore_n (pc := 12) (al' := [(0, vR 1), (1, vI 0), (2, vI 0)]) dX6_longestBlock_12 rfl rfl (by decide) ?_
  refine x_iconst (pc := 13) dX6_longestBlock_13 ?_
  refine x_istore_n (pc := 14) (al' := [(0, vR 1), (1, vI 0), (2, vI 0), (3, vI 0)]) dX6_longestBlock_14 rfl rfl (by decide) ?_
  exact x_sub [0, 1, 2, 3] rfl h
set_option maxRecDepth 100000 in
set_option maxHeartbeats 4000000 in
theorem t_X6_longestBlock_15 {Γ : GG} {P : MP} {I : MM} {R : Int → MM → Prop} {x1 x2 x3 : Int} (hM : LM Γ P)
    (h : (inR x3) ∧ (inR (I 1 24)) ∧ (((I 1 24) ≤ x3 → R x1 I) ∧ (¬ (I 1 24) ≤ x3 → ((x3 = 0 → (Cl Γ m_X6_max [vI x1, vI 1] P I (ri P (fun (z7 : Int) (I8 : MM) => XM Γ m_X6_longestBlock 0 0 15 [(0, vR 1), (1, vI z7), (2, vI 1), (3, vI (x3 + 1))] [] P I8 (ri P R))))) ∧ (¬ x3 = 0 → (0 ≤ x3) ∧ (x3 < 36) ∧ (Cl Γ m_X6_machineOf [vR 1, vI (I 12 (x3).toNat)] P I (ri P (fun (z11 : Int) (I12 : MM) => (0 ≤ (x3 - 1)) ∧ ((x3 - 1) < 36) ∧ (Cl Γ m_X6_machineOf [vR 1, vI (I12 12 ((x3 - 1)).toNat)] P I12 (ri P (fun (z15 : Int) (I16 : MM) => (inR z11) ∧ (inR z15) ∧ ((z11 = z15 → (∀ x21 : Int, x21 = (x2 + 1) → (Cl Γ m_X6_max [vI x1, vI x21] P I16 (ri P (fun (z22 : Int) (I23 : MM) => XM Γ m_X6_longestBlock 0 0 15 [(0, vR 1), (1, vI z22), (2, vI x21), (3, vI (x3 + 1))] [] P I23 (ri P R)))))) ∧ (¬ z11 = z15 → (Cl Γ m_X6_max [vI x1, vI 1] P I16 (ri P (fun (z24 : Int) (I25 : MM) => XM Γ m_X6_longestBlock 0 0 15 [(0, vR 1), (1, vI z24), (2, vI 1), (3, vI (x3 + 1))] [] P I25 (ri P R))))))))))))))))) :
    XM Γ m_X6_longestBlock 0 0 15 [(0, vR 1), (1, vI x1), (2, vI x2), (3, vI x3)] [] P I (ri P R) := by
  refine x_iload_n (pc := 15) 3 dX6_longestBlock_15 rfl ?_
  refine x_aload_n (pc := 16) 0 dX6_longestBlock_16 rfl ?_
  refine x_getI (pc := 17) dX6_longestBlock_17 FC6 24 (by decide) rfl fl_X6_263 (LM_ob hM) ?_
  obtain ⟨hr1, h⟩ := h
  obtain ⟨hr2, h⟩ := h
  obtain ⟨hA3, hB4⟩ := h
  refine x_icmp_ge (pc := 20) 72 dX6_longestBlock_20 (by decide) hr1 hr2 (fun hc => ?_) (fun hc => ?_)
  · have h := hA3 hc
    refine x_iload_n (pc := 72) 1 dX6_longestBlock_72 rfl ?_
    exact x_iret (pc := 73) dX6_longestBlock_73 rfl (Nat.le_refl _) (Nat.le_refl _) ⟨_, rfl, rfl, h⟩
  · have h := hB4 hc
    refine x_iload_n (pc := 23) 3 dX6_longestBlock_23 rfl ?_
    obtain ⟨hA5, hB6⟩ := h
    refine x_if_eq (pc := 24) 52 dX6_longestBlock_24 (by decide) hr1 (fun hc => ?_) (fun hc => ?_)
    · have h := hA5 hc
      refine x_iconst (pc := 52) dX6_longestBlock_52 ?_
      refine x_goto (pc := 53) 59 dX6_longestBlock_53 (by decide) ?_
      refine x_istore_n (pc := 59) (al' := [(0, vR 1), (1, vI x1), (2, vI 1), (3, vI x3)]) dX6_longestBlock_59 rfl rfl (by decide) ?_
      refine x_iload_n (pc := 60) 1 dX6_longestBlock_60 rfl ?_
      refine x_iload_n (pc := 61) 2 dX6_longestBlock_61 rfl ?_
      refine x_Si (μ := m_X6_longestBlock) (pc := 62) dX6_longestBlock_62 h k_X6_max ml_X6_205 ⟨Nat.le_of_ble_eq_true rfl, Nat.le_of_ble_eq_true rfl⟩ ⟨rfl, rfl⟩ ⟨Nat.zero_le _, Nat.zero_le _⟩ rfl (Nat.le_of_ble_eq_true rfl) _ rfl (fun z7 I8 h => ?_)
      refine x_istore_n (pc := 65) (al' := [(0, vR 1), (1, vI z7), (2, vI 1), (3, vI x3)]) dX6_longestBlock_65 rfl rfl (by decide) ?_
      refine x_iinc (pc := 66) (al' := [(0, vR 1), (1, vI z7), (2, vI 1), (3, vI (x3 + 1))]) 3 dX6_longestBlock_66 rfl rfl rfl (by decide) ?_
      refine x_goto (pc := 69) 15 dX6_longestBlock_69 (by decide) ?_
      exact x_sub [0, 1, 2, 3] rfl h
    · have h := hB6 hc
      refine x_aload_n (pc := 27) 0 dX6_longestBlock_27 rfl ?_
      refine x_aload_n (pc := 28) 0 dX6_longestBlock_28 rfl ?_
      refine x_getP (pc := 29) dX6_longestBlock_29 FC6 23 (by decide) rfl fl_X6_48 (LM_ob hM) (LM_p23 hM) ?_
      refine x_iload_n (pc := 32) 3 dX6_longestBlock_32 rfl ?_
      obtain ⟨hv9, h⟩ := h
      obtain ⟨hv10, h⟩ := h
      refine x_iald (pc := 33) dX6_longestBlock_33 (LM_a23 hM) hv9 hv10 (by decide) ?_
      refine x_Vi (μ := m_X6_longestBlock) (pc := 34) dX6_longestBlock_34 h k_X6_machineOf ml_X6_193 ⟨Nat.le_of_ble_eq_true rfl, Nat.le_of_ble_eq_true rfl⟩ ⟨rfl, rfl⟩ ⟨Nat.zero_le _, Nat.zero_le _⟩ rfl (LM_ob hM) rfl (Nat.le_of_ble_eq_true rfl) _ rfl (fun z11 I12 h => ?_)
      refine x_aload_n (pc := 37) 0 dX6_longestBlock_37 rfl ?_
      refine x_aload_n (pc := 38) 0 dX6_longestBlock_38 rfl ?_
      refine x_getP (pc := 39) dX6_longestBlock_39 FC6 23 (by decide) rfl fl_X6_48 (LM_ob hM) (LM_p23 hM) ?_
      refine x_iload_n (pc := 42) 3 dX6_longestBlock_42 rfl ?_
      refine x_iconst (pc := 43) dX6_longestBlock_43 ?_
      refine x_isub (pc := 44) dX6_longestBlock_44 ?_
      obtain ⟨hv13, h⟩ := h
      obtain ⟨hv14, h⟩ := h
      refine x_iald (pc := 45) dX6_longestBlock_45 (LM_a23 hM) hv13 hv14 (by decide) ?_
      refine x_Vi (μ := m_X6_longestBlock) (pc := 46) dX6_longestBlock_46 h k_X6_machineOf ml_X6_193 ⟨Nat.le_of_ble_eq_true rfl, Nat.le_of_ble_eq_true rfl⟩ ⟨rfl, rfl⟩ ⟨Nat.zero_le _, Nat.zero_le _⟩ rfl (LM_ob hM) rfl (Nat.le_of_ble_eq_true rfl) _ rfl (fun z15 I16 h => ?_)
      obtain ⟨hr17, h⟩ := h
      obtain ⟨hr18, h⟩ := h
      obtain ⟨hA19, hB20⟩ := h
      refine x_icmp_eq (pc := 49) 56 dX6_longestBlock_49 (by decide) hr17 hr18 (fun hc => ?_) (fun hc => ?_)
      · have h := hA19 hc
        refine x_iload_n (pc := 56) 2 dX6_longestBlock_56 rfl ?_
        refine x_iconst (pc := 57) dX6_longestBlock_57 ?_
        refine x_iadd (pc := 58) dX6_longestBlock_58 ?_
        refine x_nmT (fun x21 ex21 => ?_)
        have h := h x21 ex21
        refine x_istore_n (pc := 59) (al' := [(0, vR 1), (1, vI x1), (2, vI x21), (3, vI x3)]) dX6_longestBlock_59 rfl rfl (by decide) ?_
        refine x_iload_n (pc := 60) 1 dX6_longestBlock_60 rfl ?_
        refine x_iload_n (pc := 61) 2 dX6_longestBlock_61 rfl ?_
        refine x_Si (μ := m_X6_longestBlock) (pc := 62) dX6_longestBlock_62 h k_X6_max ml_X6_205 ⟨Nat.le_of_ble_eq_true rfl, Nat.le_of_ble_eq_true rfl⟩ ⟨rfl, rfl⟩ ⟨Nat.zero_le _, Nat.zero_le _⟩ rfl (Nat.le_of_ble_eq_true rfl) _ rfl (fun z22 I23 h => ?_)
        refine x_istore_n (pc := 65) (al' := [(0, vR 1), (1, vI z22), (2, vI x21), (3, vI x3)]) dX6_longestBlock_65 rfl rfl (by decide) ?_
        refine x_iinc (pc := 66) (al' := [(0, vR 1), (1, vI z22), (2, vI x21), (3, vI (x3 + 1))]) 3 dX6_longestBlock_66 rfl rfl rfl (by decide) ?_
        refine x_goto (pc := 69) 15 dX6_longestBlock_69 (by decide) ?_
        exact x_sub [0, 1, 2, 3] rfl h
      · have h := hB20 hc
        refine x_iconst (pc := 52) dX6_longestBlock_52 ?_
        refine x_goto (pc := 53) 59 dX6_longestBlock_53 (by decide) ?_
        refine x_istore_n (pc := 59) (al' := [(0, vR 1), (1, vI x1), (2, vI 1), (3, vI x3)]) dX6_longestBlock_59 rfl rfl (by decide) ?_
        refine x_iload_n (pc := 60) 1 dX6_longestBlock_60 rfl ?_
        refine x_iload_n (pc := 61) 2 dX6_longestBlock_61 rfl ?_
        refine x_Si (μ := m_X6_longestBlock) (pc := 62) dX6_longestBlock_62 h k_X6_max ml_X6_205 ⟨Nat.le_of_ble_eq_true rfl, Nat.le_of_ble_eq_true rfl⟩ ⟨rfl, rfl⟩ ⟨Nat.zero_le _, Nat.zero_le _⟩ rfl (Nat.le_of_ble_eq_true rfl) _ rfl (fun z24 I25 h => ?_)
        refine x_istore_n (pc := 65) (al' := [(0, vR 1), (1, vI z24), (2, vI 1), (3, vI x3)]) dX6_longestBlock_65 rfl rfl (by decide) ?_
        refine x_iinc (pc := 66) (al' := [(0, vR 1), (1, vI z24), (2, vI 1), (3, vI (x3 + 1))]) 3 dX6_longestBlock_66 rfl rfl rfl (by decide) ?_
        refine x_goto (pc := 69) 15 dX6_longestBlock_69 (by decide) ?_
        exact x_sub [0, 1, 2, 3] rfl h
set_option maxRecDepth 100000 in
set_option maxHeartbeats 4000000 in
theorem t_X6_spanAfter_0 {Γ : GG} {P : MP} {I : MM} {R : Int → MM → Prop} {x1 x2 : Int} (hM : LM Γ P)
    (h : (Cl Γ m_X6_exchange [vR 1, vI x1, vI x2] P I (rv P (fun (I1 : MM) => (Cl Γ m_X6_isDeadlocked [vR 1] P I1 (ri P (fun (z2 : Int) (I3 : MM) => (inR z2) ∧ ((z2 = 0 → (Cl Γ m_X6_makespanOf [vR 1] P I3 (ri P (fun (z7 : Int) (I8 : MM) => (Cl Γ m_X6_exchange [vR 1, vI x1, vI x2] P I8 (rv P (fun (I9 : MM) => R z7 I9))))))) ∧ (¬ z2 = 0 → (Cl Γ m_X6_exchange [vR 1, vI x1, vI x2] P I3 (rv P (fun (I10 : MM) => R (-1) I10)))))))))))) :
    XM Γ m_X6_spanAfter 0 0 0 [(0, vR 1), (1, vI x1), (2, vI x2)] [] P I (ri P R) := by
  refine x_aload_n (pc := 0) 0 dX6_spanAfter_0 rfl ?_
  refine x_iload_n (pc := 1) 1 dX6_spanAfter_1 rfl ?_
  refine x_iload_n (pc := 2) 2 dX6_spanAfter_2 rfl ?_
  refine x_Vv (μ := m_X6_spanAfter) (pc := 3) dX6_spanAfter_3 h k_X6_exchange ml_X6_241 ⟨Nat.le_of_ble_eq_true rfl, Nat.le_of_ble_eq_true rfl⟩ ⟨rfl, rfl⟩ ⟨Nat.zero_le _, Nat.zero_le _⟩ rfl (LM_ob hM) rfl (Nat.le_of_ble_eq_true rfl) _ rfl (fun I1 h => ?_)
  refine x_aload_n (pc := 6) 0 dX6_spanAfter_6 rfl ?_
  refine x_Vi (μ := m_X6_spanAfter) (pc := 7) dX6_spanAfter_7 h k_X6_isDeadlocked ml_X6_244 ⟨Nat.le_of_ble_eq_true rfl, Nat.le_of_ble_eq_true rfl⟩ ⟨rfl, rfl⟩ ⟨Nat.zero_le _, Nat.zero_le _⟩ rfl (LM_ob hM) rfl (Nat.le_of_ble_eq_true rfl) _ rfl (fun z2 I3 h => ?_)
  obtain ⟨hr4, h⟩ := h
  obtain ⟨hA5, hB6⟩ := h
  refine x_if_eq (pc := 10) 17 dX6_spanAfter_10 (by decide) hr4 (fun hc => ?_) (fun hc => ?_)
  · have h := hA5 hc
    refine x_aload_n (pc := 17) 0 dX6_spanAfter_17 rfl ?_
    refine x_Vi (μ := m_X6_spanAfter) (pc := 18) dX6_spanAfter_18 h k_X6_makespanOf ml_X6_247 ⟨Nat.le_of_ble_eq_true rfl, Nat.le_of_ble_eq_true rfl⟩ ⟨rfl, rfl⟩ ⟨Nat.zero_le _, Nat.zero_le _⟩ rfl (LM_ob hM) rfl (Nat.le_of_ble_eq_true rfl) _ rfl (fun z7 I8 h => ?_)
    refine x_istore_n (pc := 21) (al' := [(0, vR 1), (1, vI x1), (2, vI x2), (3, vI z7)]) dX6_spanAfter_21 rfl rfl (by decide) ?_
    refine x_aload_n (pc := 22) 0 dX6_spanAfter_22 rfl ?_
    refine x_iload_n (pc := 23) 1 dX6_spanAfter_23 rfl ?_
    refine x_iload_n (pc := 24) 2 dX6_spanAfter_24 rfl ?_
    refine x_Vv (μ := m_X6_spanAfter) (pc := 25) dX6_spanAfter_25 h k_X6_exchange ml_X6_241 ⟨Nat.le_of_ble_eq_true rfl, Nat.le_of_ble_eq_true rfl⟩ ⟨rfl, rfl⟩ ⟨Nat.zero_le _, Nat.zero_le _⟩ rfl (LM_ob hM) rfl (Nat.le_of_ble_eq_true rfl) _ rfl (fun I9 h => ?_)
    refine x_iload_n (pc := 28) 3 dX6_spanAfter_28 rfl ?_
    exact x_iret (pc := 29) dX6_spanAfter_29 rfl (Nat.le_refl _) (Nat.le_refl _) ⟨_, rfl, rfl, h⟩
  · have h := hB6 hc
    refine x_iconst (pc := 13) dX6_spanAfter_13 ?_
    refine x_goto (pc := 14) 21 dX6_spanAfter_14 (by decide) ?_
    refine x_istore_n (pc := 21) (al' := [(0, vR 1), (1, vI x1), (2, vI x2), (3, vI (-1))]) dX6_spanAfter_21 rfl rfl (by decide) ?_
    refine x_aload_n (pc := 22) 0 dX6_spanAfter_22 rfl ?_
    refine x_iload_n (pc := 23) 1 dX6_spanAfter_23 rfl ?_
    refine x_iload_n (pc := 24) 2 dX6_spanAfter_24 rfl ?_
    refine x_Vv (μ := m_X6_spanAfter) (pc := 25) dX6_spanAfter_25 h k_X6_exchange ml_X6_241 ⟨Nat.le_of_ble_eq_true rfl, Nat.le_of_ble_eq_true rfl⟩ ⟨rfl, rfl⟩ ⟨Nat.zero_le _, Nat.zero_le _⟩ rfl (LM_ob hM) rfl (Nat.le_of_ble_eq_true rfl) _ rfl (fun I10 h => ?_)
    refine x_iload_n (pc := 28) 3 dX6_spanAfter_28 rfl ?_
    exact x_iret (pc := 29) dX6_spanAfter_29 rfl (Nat.le_refl _) (Nat.le_refl _) ⟨_, rfl, rfl, h⟩
set_option maxRecDepth 100000 in
set_option maxHeartbeats 4000000 in
theorem t_X6_deadlocks_0 {Γ : GG} {P : MP} {I : MM} {R : Int → MM → Prop} {x1 x2 : Int} (hM : LM Γ P)
    (h : (∀ I1 : MM, I1 = up2 I 1 0 0 → (Cl Γ m_X6_noSwap [vR 1, vI x1, vI x2] P I1 (ri P (fun (z2 : Int) (I3 : MM) => (inR z2) ∧ ((z2 ≠ 0 → R 0 I3) ∧ (z2 = 0 → (Cl Γ m_X6_spanAfter [vR 1, vI x1, vI x2] P I3 (ri P (fun (z7 : Int) (I8 : MM) => (inR z7) ∧ ((z7 ≠ (-1) → R 0 I8) ∧ (z7 = (-1) → R 1 I8)))))))))))) :
    XM Γ m_X6_deadlocks 0 0 0 [(0, vR 1), (1, vI x1), (2, vI x2)] [] P I (ri P R) := by
  refine x_aload_n (pc := 0) 0 dX6_deadlocks_0 rfl ?_
  refine x_iconst (pc := 1) dX6_deadlocks_1 ?_
  refine x_putI (pc := 2) dX6_deadlocks_2 FC6 0 (by decide) rfl rfl fl_X6_51 (LM_ob hM) ?_
  refine x_nmI (fun I1 eI1 => ?_)
  have h := h I1 eI1
  refine x_aload_n (pc := 5) 0 dX6_deadlocks_5 rfl ?_
  refine x_iload_n (pc := 6) 1 dX6_deadlocks_6 rfl ?_
  refine x_iload_n (pc := 7) 2 dX6_deadlocks_7 rfl ?_
  refine x_Vi (μ := m_X6_deadlocks) (pc := 8) dX6_deadlocks_8 h k_X6_noSwap ml_X6_294 ⟨Nat.le_of_ble_eq_true rfl, Nat.le_of_ble_eq_true rfl⟩ ⟨rfl, rfl⟩ ⟨Nat.zero_le _, Nat.zero_le _⟩ rfl (LM_ob hM) rfl (Nat.le_of_ble_eq_true rfl) _ rfl (fun z2 I3 h => ?_)
  obtain ⟨hr4, h⟩ := h
  obtain ⟨hA5, hB6⟩ := h
  refine x_if_ne (pc := 11) 28 dX6_deadlocks_11 (by decide) hr4 (fun hc => ?_) (fun hc => ?_)
  · have h := hA5 hc
    refine x_iconst (pc := 28) dX6_deadlocks_28 ?_
    exact x_zret (pc := 29) dX6_deadlocks_29 rfl (by decide) (Nat.le_refl _) (Nat.le_refl _) ⟨_, rfl, rfl, h⟩
  · have h := hB6 hc
    refine x_aload_n (pc := 14) 0 dX6_deadlocks_14 rfl ?_
    refine x_iload_n (pc := 15) 1 dX6_deadlocks_15 rfl ?_
    refine x_iload_n (pc := 16) 2 dX6_deadlocks_16 rfl ?_
    refine x_Vi (μ := m_X6_deadlocks) (pc := 17) dX6_deadlocks_17 h k_X6_spanAfter ml_X6_297 ⟨Nat.le_of_ble_eq_true rfl, Nat.le_of_ble_eq_true rfl⟩ ⟨rfl, rfl⟩ ⟨Nat.zero_le _, Nat.zero_le _⟩ rfl (LM_ob hM) rfl (Nat.le_of_ble_eq_true rfl) _ rfl (fun z7 I8 h => ?_)
    refine x_iconst (pc := 20) dX6_deadlocks_20 ?_
    obtain ⟨hr9, h⟩ := h
    obtain ⟨hA10, hB11⟩ := h
    refine x_icmp_ne (pc := 21) 28 dX6_deadlocks_21 (by decide) hr9 ⟨by decide, by decide⟩ (fun hc => ?_) (fun hc => ?_)
    · have h := hA10 hc
      refine x_iconst (pc := 28) dX6_deadlocks_28 ?_
      exact x_zret (pc := 29) dX6_deadlocks_29 rfl (by decide) (Nat.le_refl _) (Nat.le_refl _) ⟨_, rfl, rfl, h⟩
    · have h := hB11 hc
      refine x_iconst (pc := 24) dX6_deadlocks_24 ?_
      refine x_goto (pc := 25) 29 dX6_deadlocks_25 (by decide) ?_
      exact x_zret (pc := 29) dX6_deadlocks_29 rfl (by decide) (Nat.le_refl _) (Nat.le_refl _) ⟨_, rfl, rfl, h⟩
set_option maxRecDepth 100000 in
set_option maxHeartbeats 4000000 in
theorem t_X6_makespanAfter_0 {Γ : GG} {P : MP} {I : MM} {R : Int → MM → Prop} {x1 x2 : Int} (hM : LM Γ P)
    (h : (∀ I1 : MM, I1 = up2 I 1 0 0 → (Cl Γ m_X6_noSwap [vR 1, vI x1, vI x2] P I1 (ri P (fun (z2 : Int) (I3 : MM) => (inR z2) ∧ ((z2 = 0 → (Cl Γ m_X6_spanAfter [vR 1, vI x1, vI x2] P I3 (ri P (fun (z7 : Int) (I8 : MM) => R z7 I8)))) ∧ (¬ z2 = 0 → R 0 I3))))))) :
    XM Γ m_X6_makespanAfter 0 0 0 [(0, vR 1), (1, vI x1), (2, vI x2)] [] P I (ri P R) := by
  refine x_aload_n (pc := 0) 0 dX6_makespanAfter_0 rfl ?_
  refine x_iconst (pc := 1) dX6_makespanAfter_1 ?_
  refine x_putI (pc := 2) dX6_makespanAfter_2 FC6 0 (by decide) rfl rfl fl_X6_51 (LM_ob hM) ?_
  refine x_nmI (fun I1 eI1 => ?_)
  have h := h I1 eI1
  refine x_aload_n (pc := 5) 0 dX6_makespanAfter_5 rfl ?_
  refine x_iload_n (pc := 6) 1 dX6_makespanAfter_6 rfl ?_
  refine x_iload_n (pc := 7) 2 dX6_makespanAfter_7 rfl ?_
  refine x_Vi (μ := m_X6_makespanAfter) (pc := 8) dX6_makespanAfter_8 h k_X6_noSwap ml_X6_294 ⟨Nat.le_of_ble_eq_true rfl, Nat.le_of_ble_eq_true rfl⟩ ⟨rfl, rfl⟩ ⟨Nat.zero_le _, Nat.zero_le _⟩ rfl (LM_ob hM) rfl (Nat.le_of_ble_eq_true rfl) _ rfl (fun z2 I3 h => ?_)
  obtain ⟨hr4, h⟩ := h
  obtain ⟨hA5, hB6⟩ := h
  refine x_if_eq (pc := 11) 18 dX6_makespanAfter_11 (by decide) hr4 (fun hc => ?_) (fun hc => ?_)
  · have h := hA5 hc
    refine x_aload_n (pc := 18) 0 dX6_makespanAfter_18 rfl ?_
    refine x_iload_n (pc := 19) 1 dX6_makespanAfter_19 rfl ?_
    refine x_iload_n (pc := 20) 2 dX6_makespanAfter_20 rfl ?_
    refine x_Vi (μ := m_X6_makespanAfter) (pc := 21) dX6_makespanAfter_21 h k_X6_spanAfter ml_X6_297 ⟨Nat.le_of_ble_eq_true rfl, Nat.le_of_ble_eq_true rfl⟩ ⟨rfl, rfl⟩ ⟨Nat.zero_le _, Nat.zero_le _⟩ rfl (LM_ob hM) rfl (Nat.le_of_ble_eq_true rfl) _ rfl (fun z7 I8 h => ?_)
    exact x_iret (pc := 24) dX6_makespanAfter_24 rfl (Nat.le_refl _) (Nat.le_refl _) ⟨_, rfl, rfl, h⟩
  · have h := hB6 hc
    refine x_iconst (pc := 14) dX6_makespanAfter_14 ?_
    refine x_goto (pc := 15) 24 dX6_makespanAfter_15 (by decide) ?_
    exact x_iret (pc := 24) dX6_makespanAfter_24 rfl (Nat.le_refl _) (Nat.le_refl _) ⟨_, rfl, rfl, h⟩
set_option maxRecDepth 100000 in
set_option maxHeartbeats 4000000 in
theorem t_X6_bestSwap_0 {Γ : GG} {P : MP} {I : MM} {R : Int → MM → Prop} (hM : LM Γ P)
    (h : (∀ I1 : MM, I1 = up2 I 1 0 0 → (Cl Γ m_X6_findBest [vR 1] P I1 (ri P (fun (z2 : Int) (I3 : MM) => R z2 I3))))) :
    XM Γ m_X6_bestSwap 0 0 0 [(0, vR 1)] [] P I (ri P R) := by
  refine x_aload_n (pc := 0) 0 dX6_bestSwap_0 rfl ?_
  refine x_iconst (pc := 1) dX6_bestSwap_1 ?_
  refine x_putI (pc := 2) dX6_bestSwap_2 FC6 0 (by decide) rfl rfl fl_X6_51 (LM_ob hM) ?_
  refine x_nmI (fun I1 eI1 => ?_)
  have h := h I1 eI1
  refine x_aload_n (pc := 5) 0 dX6_bestSwap_5 rfl ?_
  refine x_Vi (μ := m_X6_bestSwap) (pc := 6) dX6_bestSwap_6 h k_X6_findBest ml_X6_300 ⟨Nat.le_of_ble_eq_true rfl, Nat.le_of_ble_eq_true rfl⟩ ⟨rfl, rfl⟩ ⟨Nat.zero_le _, Nat.zero_le _⟩ rfl (LM_ob hM) rfl (Nat.le_of_ble_eq_true rfl) _ rfl (fun z2 I3 h => ?_)
  exact x_iret (pc := 9) dX6_bestSwap_9 rfl (Nat.le_refl _) (Nat.le_refl _) ⟨_, rfl, rfl, h⟩
set_option maxRecDepth 100000 in
set_option maxHeartbeats 4000000 in
theorem t_X6_remember_0 {Γ : GG} {P : MP} {I : MM} {R : MM → Prop} (hM : LM Γ P)
    (h : (inR (I 1 12)) ∧ (((I 1 12) ≠ 8 → (0 ≤ (I 1 12)) ∧ ((I 1 12) < 8) ∧ (Cl Γ m_X6_copy [vR 3, vR (13 + ((I 1 12)).toNat)] P I (rv P (fun (I6 : MM) => (∀ I7 : MM, I7 = up2 I6 1 12 ((I6 1 12) + 1) → R I7))))) ∧ ((I 1 12) = 8 → XM Γ m_X6_remember 0 0 11 [(0, vR 1), (1, vI 1)] [] P I (rv P R)))) :
    XM Γ m_X6_remember 0 0 0 [(0, vR 1)] [] P I (rv P R) := by
  refine x_aload_n (pc := 0) 0 dX6_remember_0 rfl ?_
  refine x_getI (pc := 1) dX6_remember_1 FC6 12 (by decide) rfl fl_X6_303 (LM_ob hM) ?_
  refine x_bipush (pc := 4) dX6_remember_4 rfl ?_
  obtain ⟨hr1, h⟩ := h
  obtain ⟨hA2, hB3⟩ := h
  refine x_icmp_ne (pc := 6) 50 dX6_remember_6 (by decide) hr1 ⟨by decide, by decide⟩ (fun hc => ?_) (fun hc => ?_)
  · have h := hA2 hc
    refine x_aload_n (pc := 50) 0 dX6_remember_50 rfl ?_
    refine x_getP (pc := 51) dX6_remember_51 FC6 8 (by decide) rfl fl_X6_17 (LM_ob hM) (LM_p8 hM) ?_
    refine x_aload_n (pc := 54) 0 dX6_remember_54 rfl ?_
    refine x_getP (pc := 55) dX6_remember_55 FC6 11 (by decide) rfl fl_X6_28 (LM_ob hM) (LM_p11 hM) ?_
    refine x_aload_n (pc := 58) 0 dX6_remember_58 rfl ?_
    refine x_getI (pc := 59) dX6_remember_59 FC6 12 (by decide) rfl fl_X6_303 (LM_ob hM) ?_
    obtain ⟨hv4, h⟩ := h
    obtain ⟨hv5, h⟩ := h
    refine x_aald (pc := 62) dX6_remember_62 5 (LM_a11 hM) (by decide) hv4 hv5 (by decide) (LM_h hM hv4 hv5).1 ?_
    refine x_Sv (μ := m_X6_remember) (pc := 63) dX6_remember_63 h k_X6_copy ml_X6_186 ⟨Nat.le_of_ble_eq_true rfl, Nat.le_of_ble_eq_true rfl⟩ ⟨rfl, rfl⟩ ⟨Nat.zero_le _, Nat.zero_le _⟩ rfl (Nat.le_of_ble_eq_true rfl) _ rfl (fun I6 h => ?_)
    refine x_aload_n (pc := 66) 0 dX6_remember_66 rfl ?_
    refine x_dup (pc := 67) dX6_remember_67 rfl ?_
    refine x_getI (pc := 68) dX6_remember_68 FC6 12 (by decide) rfl fl_X6_303 (LM_ob hM) ?_
    refine x_iconst (pc := 71) dX6_remember_71 ?_
    refine x_iadd (pc := 72) dX6_remember_72 ?_
    refine x_putI (pc := 73) dX6_remember_73 FC6 12 (by decide) rfl rfl fl_X6_303 (LM_ob hM) ?_
    refine x_nmI (fun I7 eI7 => ?_)
    have h := h I7 eI7
    exact x_vret (pc := 76) dX6_remember_76 rfl (Nat.le_refl _) (Nat.le_refl _) ⟨rfl, rfl, h⟩
  · have h := hB3 hc
    refine x_iconst (pc := 9) dX6_remember_9 ?_
    refine x_istore_n (pc := 10) (al' := [(0, vR 1), (1, vI 1)]) dX6_remember_10 rfl rfl (by decide) ?_
    exact x_sub [0, 1] rfl h
set_option maxRecDepth 100000 in
set_option maxHeartbeats 4000000 in
theorem t_X6_remember_11 {Γ : GG} {P : MP} {I : MM} {R : MM → Prop} {x1 : Int} (hM : LM Γ P)
    (h : (inR x1) ∧ ((8 ≤ x1 → (∀ I4 : MM, I4 = up2 I 1 12 ((I 1 12) - 1) → (0 ≤ (I4 1 12)) ∧ ((I4 1 12) < 8) ∧ (Cl Γ m_X6_copy [vR 3, vR (13 + ((I4 1 12)).toNat)] P I4 (rv P (fun (I7 : MM) => (∀ I8 : MM, I8 = up2 I7 1 12 ((I7 1 12) + 1) → R I8)))))) ∧ (¬ 8 ≤ x1 → (0 ≤ x1) ∧ (x1 < 8) ∧ (0 ≤ (x1 - 1)) ∧ ((x1 - 1) < 8) ∧ (Cl Γ m_X6_copy [vR (13 + (x1).toNat), vR (13 + ((x1 - 1)).toNat)] P I (rv P (fun (I13 : MM) => XM Γ m_X6_remember 0 0 11 [(0, vR 1), (1, vI (x1 + 1))] [] P I13 (rv P R))))))) :
    XM Γ m_X6_remember 0 0 11 [(0, vR 1), (1, vI x1)] [] P I (rv P R) := by
  refine x_iload_n (pc := 11) 1 dX6_remember_11 rfl ?_
  refine x_bipush (pc := 12) dX6_remember_12 rfl ?_
  obtain ⟨hr1, h⟩ := h
  obtain ⟨hA2, hB3⟩ := h
  refine x_icmp_ge (pc := 14) 40 dX6_remember_14 (by decide) hr1 ⟨by decide, by decide⟩ (fun hc => ?_) (fun hc => ?_)
  · have h := hA2 hc
    refine x_aload_n (pc := 40) 0 dX6_remember_40 rfl ?_
    refine x_dup (pc := 41) dX6_remember_41 rfl ?_
    refine x_getI (pc := 42) dX6_remember_42 FC6 12 (by decide) rfl fl_X6_303 (LM_ob hM) ?_
    refine x_iconst (pc := 45) dX6_remember_45 ?_
    refine x_isub (pc := 46) dX6_remember_46 ?_
    refine x_putI (pc := 47) dX6_remember_47 FC6 12 (by decide) rfl rfl fl_X6_303 (LM_ob hM) ?_
    refine x_nmI (fun I4 eI4 => ?_)
    have h := h I4 eI4
    refine x_aload_n (pc := 50) 0 dX6_remember_50 rfl ?_
    refine x_getP (pc := 51) dX6_remember_51 FC6 8 (by decide) rfl fl_X6_17 (LM_ob hM) (LM_p8 hM) ?_
    refine x_aload_n (pc := 54) 0 dX6_remember_54 rfl ?_
    refine x_getP (pc := 55) dX6_remember_55 FC6 11 (by decide) rfl fl_X6_28 (LM_ob hM) (LM_p11 hM) ?_
    refine x_aload_n (pc := 58) 0 dX6_remember_58 rfl ?_
    refine x_getI (pc := 59) dX6_remember_59 FC6 12 (by decide) rfl fl_X6_303 (LM_ob hM) ?_
    obtain ⟨hv5, h⟩ := h
    obtain ⟨hv6, h⟩ := h
    refine x_aald (pc := 62) dX6_remember_62 5 (LM_a11 hM) (by decide) hv5 hv6 (by decide) (LM_h hM hv5 hv6).1 ?_
    refine x_Sv (μ := m_X6_remember) (pc := 63) dX6_remember_63 h k_X6_copy ml_X6_186 ⟨Nat.le_of_ble_eq_true rfl, Nat.le_of_ble_eq_true rfl⟩ ⟨rfl, rfl⟩ ⟨Nat.zero_le _, Nat.zero_le _⟩ rfl (Nat.le_of_ble_eq_true rfl) _ rfl (fun I7 h => ?_)
    refine x_aload_n (pc := 66) 0 dX6_remember_66 rfl ?_
    refine x_dup (pc := 67) dX6_remember_67 rfl ?_
    refine x_getI (pc := 68) dX6_remember_68 FC6 12 (by decide) rfl fl_X6_303 (LM_ob hM) ?_
    refine x_iconst (pc := 71) dX6_remember_71 ?_
    refine x_iadd (pc := 72) dX6_remember_72 ?_
    refine x_putI (pc := 73) dX6_remember_73 FC6 12 (by decide) rfl rfl fl_X6_303 (LM_ob hM) ?_
    refine x_nmI (fun I8 eI8 => ?_)
    have h := h I8 eI8
    exact x_vret (pc := 76) dX6_remember_76 rfl (Nat.le_refl _) (Nat.le_refl _) ⟨rfl, rfl, h⟩
  · have h := hB3 hc
    refine x_aload_n (pc := 17) 0 dX6_remember_17 rfl ?_
    refine x_getP (pc := 18) dX6_remember_18 FC6 11 (by decide) rfl fl_X6_28 (LM_ob hM) (LM_p11 hM) ?_
    refine x_iload_n (pc := 21) 1 dX6_remember_21 rfl ?_
    obtain ⟨hv9, h⟩ := h
    obtain ⟨hv10, h⟩ := h
    refine x_aald (pc := 22) dX6_remember_22 5 (LM_a11 hM) (by decide) hv9 hv10 (by decide) (LM_h hM hv9 hv10).1 ?_
    refine x_aload_n (pc := 23) 0 dX6_remember_23 rfl ?_
    refine x_getP (pc := 24) dX6_remember_24 FC6 11 (by decide) rfl fl_X6_28 (LM_ob hM) (LM_p11 hM) ?_
    refine x_iload_n (pc := 27) 1 dX6_remember_27 rfl ?_
    refine x_iconst (pc := 28) dX6_remember_28 ?_
    refine x_isub (pc := 29) dX6_remember_29 ?_
    obtain ⟨hv11, h⟩ := h
    obtain ⟨hv12, h⟩ := h
    refine x_aald (pc := 30) dX6_remember_30 5 (LM_a11 hM) (by decide) hv11 hv12 (by decide) (LM_h hM hv11 hv12).1 ?_
    refine x_Sv (μ := m_X6_remember) (pc := 31) dX6_remember_31 h k_X6_copy ml_X6_186 ⟨Nat.le_of_ble_eq_true rfl, Nat.le_of_ble_eq_true rfl⟩ ⟨rfl, rfl⟩ ⟨Nat.zero_le _, Nat.zero_le _⟩ rfl (Nat.le_of_ble_eq_true rfl) _ rfl (fun I13 h => ?_)
    refine x_iinc (pc := 34) (al' := [(0, vR 1), (1, vI (x1 + 1))]) 1 dX6_remember_34 rfl rfl rfl (by decide) ?_
    refine x_goto (pc := 37) 11 dX6_remember_37 (by decide) ?_
    exact x_sub [0, 1] rfl h
set_option maxRecDepth 100000 in
set_option maxHeartbeats 4000000 in
theorem t_X6_swap_0 {Γ : GG} {P : MP} {I : MM} {R : Int → MM → Prop} {x1 x2 : Int} (hM : LM Γ P)
    (h : (∀ I1 : MM, I1 = up2 I 1 0 0 → (Cl Γ m_X6_noSwap [vR 1, vI x1, vI x2] P I1 (ri P (fun (z2 : Int) (I3 : MM) => (inR z2) ∧ ((z2 ≠ 0 → R 0 I3) ∧ (z2 = 0 → (Cl Γ m_X6_spanAfter [vR 1, vI x1, vI x2] P I3 (ri P (fun (z7 : Int) (I8 : MM) => (inR z7) ∧ ((z7 ≠ (-1) → (Cl Γ m_X6_fails [vR 1, vI 0, vI 2] P I8 (ri P (fun (z12 : Int) (I13 : MM) => (inR z12) ∧ ((z12 = 0 → (Cl Γ m_X6_remember [vR 1] P I13 (rv P (fun (I17 : MM) => (Cl Γ m_X6_exchange [vR 1, vI x1, vI x2] P I17 (rv P (fun (I18 : MM) => (Cl Γ m_X6_spanNow [vR 1] P I18 (ri P (fun (z19 : Int) (I20 : MM) => R z19 I20)))))))))) ∧ (¬ z12 = 0 → R 0 I13)))))) ∧ (z7 = (-1) → (Cl Γ m_X6_fails [vR 1, vI 1, vI 2] P I8 (ri P (fun (z21 : Int) (I22 : MM) => (inR z21) ∧ ((z21 = 0 → (Cl Γ m_X6_remember [vR 1] P I22 (rv P (fun (I26 : MM) => (Cl Γ m_X6_exchange [vR 1, vI x1, vI x2] P I26 (rv P (fun (I27 : MM) => (Cl Γ m_X6_spanNow [vR 1] P I27 (ri P (fun (z28 : Int) (I29 : MM) => R z28 I29)))))))))) ∧ (¬ z21 = 0 → R 0 I22))))))))))))))))) :
    XM Γ m_X6_swap 0 0 0 [(0, vR 1), (1, vI x1), (2, vI x2)] [] P I (ri P R) := by
  refine x_aload_n (pc := 0) 0 dX6_swap_0 rfl ?_
  refine x_iconst (pc := 1) dX6_swap_1 ?_
  refine x_putI (pc := 2) dX6_swap_2 FC6 0 (by decide) rfl rfl fl_X6_51 (LM_ob hM) ?_
  refine x_nmI (fun I1 eI1 => ?_)
  have h := h I1 eI1
  refine x_aload_n (pc := 5) 0 dX6_swap_5 rfl ?_
  refine x_iload_n (pc := 6) 1 dX6_swap_6 rfl ?_
  refine x_iload_n (pc := 7) 2 dX6_swap_7 rfl ?_
  refine x_Vi (μ := m_X6_swap) (pc := 8) dX6_swap_8 h k_X6_noSwap ml_X6_294 ⟨Nat.le_of_ble_eq_true rfl, Nat.le_of_ble_eq_true rfl⟩ ⟨rfl, rfl⟩ ⟨Nat.zero_le _, Nat.zero_le _⟩ rfl (LM_ob hM) rfl (Nat.le_of_ble_eq_true rfl) _ rfl (fun z2 I3 h => ?_)
  obtain ⟨hr4, h⟩ := h
  obtain ⟨hA5, hB6⟩ := h
  refine x_if_ne (pc := 11) 37 dX6_swap_11 (by decide) hr4 (fun hc => ?_) (fun hc => ?_)
  · have h := hA5 hc
    refine x_iconst (pc := 37) dX6_swap_37 ?_
    exact x_iret (pc := 38) dX6_swap_38 rfl (Nat.le_refl _) (Nat.le_refl _) ⟨_, rfl, rfl, h⟩
  · have h := hB6 hc
    refine x_aload_n (pc := 14) 0 dX6_swap_14 rfl ?_
    refine x_aload_n (pc := 15) 0 dX6_swap_15 rfl ?_
    refine x_iload_n (pc := 16) 1 dX6_swap_16 rfl ?_
    refine x_iload_n (pc := 17) 2 dX6_swap_17 rfl ?_
    refine x_Vi (μ := m_X6_swap) (pc := 18) dX6_swap_18 h k_X6_spanAfter ml_X6_297 ⟨Nat.le_of_ble_eq_true rfl, Nat.le_of_ble_eq_true rfl⟩ ⟨rfl, rfl⟩ ⟨Nat.zero_le _, Nat.zero_le _⟩ rfl (LM_ob hM) rfl (Nat.le_of_ble_eq_true rfl) _ rfl (fun z7 I8 h => ?_)
    refine x_iconst (pc := 21) dX6_swap_21 ?_
    obtain ⟨hr9, h⟩ := h
    obtain ⟨hA10, hB11⟩ := h
    refine x_icmp_ne (pc := 22) 29 dX6_swap_22 (by decide) hr9 ⟨by decide, by decide⟩ (fun hc => ?_) (fun hc => ?_)
    · have h := hA10 hc
      refine x_iconst (pc := 29) dX6_swap_29 ?_
      refine x_iconst (pc := 30) dX6_swap_30 ?_
      refine x_Vi (μ := m_X6_swap) (pc := 31) dX6_swap_31 h k_X6_fails ml_X6_174 ⟨Nat.le_of_ble_eq_true rfl, Nat.le_of_ble_eq_true rfl⟩ ⟨rfl, rfl⟩ ⟨Nat.zero_le _, Nat.zero_le _⟩ rfl (LM_ob hM) rfl (Nat.le_of_ble_eq_true rfl) _ rfl (fun z12 I13 h => ?_)
      obtain ⟨hr14, h⟩ := h
      obtain ⟨hA15, hB16⟩ := h
      refine x_if_eq (pc := 34) 39 dX6_swap_34 (by decide) hr14 (fun hc => ?_) (fun hc => ?_)
      · have h := hA15 hc
        refine x_aload_n (pc := 39) 0 dX6_swap_39 rfl ?_
        refine x_Vv (μ := m_X6_swap) (pc := 40) dX6_swap_40 h k_X6_remember ml_X6_183 ⟨Nat.le_of_ble_eq_true rfl, Nat.le_of_ble_eq_true rfl⟩ ⟨rfl, rfl⟩ ⟨Nat.zero_le _, Nat.zero_le _⟩ rfl (LM_ob hM) rfl (Nat.le_of_ble_eq_true rfl) _ rfl (fun I17 h => ?_)
        refine x_aload_n (pc := 43) 0 dX6_swap_43 rfl ?_
        refine x_iload_n (pc := 44) 1 dX6_swap_44 rfl ?_
        refine x_iload_n (pc := 45) 2 dX6_swap_45 rfl ?_
        refine x_Vv (μ := m_X6_swap) (pc := 46) dX6_swap_46 h k_X6_exchange ml_X6_241 ⟨Nat.le_of_ble_eq_true rfl, Nat.le_of_ble_eq_true rfl⟩ ⟨rfl, rfl⟩ ⟨Nat.zero_le _, Nat.zero_le _⟩ rfl (LM_ob hM) rfl (Nat.le_of_ble_eq_true rfl) _ rfl (fun I18 h => ?_)
        refine x_aload_n (pc := 49) 0 dX6_swap_49 rfl ?_
        refine x_Vi (μ := m_X6_swap) (pc := 50) dX6_swap_50 h k_X6_spanNow ml_X6_288 ⟨Nat.le_of_ble_eq_true rfl, Nat.le_of_ble_eq_true rfl⟩ ⟨rfl, rfl⟩ ⟨Nat.zero_le _, Nat.zero_le _⟩ rfl (LM_ob hM) rfl (Nat.le_of_ble_eq_true rfl) _ rfl (fun z19 I20 h => ?_)
        exact x_iret (pc := 53) dX6_swap_53 rfl (Nat.le_refl _) (Nat.le_refl _) ⟨_, rfl, rfl, h⟩
      · have h := hB16 hc
        refine x_iconst (pc := 37) dX6_swap_37 ?_
        exact x_iret (pc := 38) dX6_swap_38 rfl (Nat.le_refl _) (Nat.le_refl _) ⟨_, rfl, rfl, h⟩
    · have h := hB11 hc
      refine x_iconst (pc := 25) dX6_swap_25 ?_
      refine x_goto (pc := 26) 30 dX6_swap_26 (by decide) ?_
      refine x_iconst (pc := 30) dX6_swap_30 ?_
      refine x_Vi (μ := m_X6_swap) (pc := 31) dX6_swap_31 h k_X6_fails ml_X6_174 ⟨Nat.le_of_ble_eq_true rfl, Nat.le_of_ble_eq_true rfl⟩ ⟨rfl, rfl⟩ ⟨Nat.zero_le _, Nat.zero_le _⟩ rfl (LM_ob hM) rfl (Nat.le_of_ble_eq_true rfl) _ rfl (fun z21 I22 h => ?_)
      obtain ⟨hr23, h⟩ := h
      obtain ⟨hA24, hB25⟩ := h
      refine x_if_eq (pc := 34) 39 dX6_swap_34 (by decide) hr23 (fun hc => ?_) (fun hc => ?_)
      · have h := hA24 hc
        refine x_aload_n (pc := 39) 0 dX6_swap_39 rfl ?_
        refine x_Vv (μ := m_X6_swap) (pc := 40) dX6_swap_40 h k_X6_remember ml_X6_183 ⟨Nat.le_of_ble_eq_true rfl, Nat.le_of_ble_eq_true rfl⟩ ⟨rfl, rfl⟩ ⟨Nat.zero_le _, Nat.zero_le _⟩ rfl (LM_ob hM) rfl (Nat.le_of_ble_eq_true rfl) _ rfl (fun I26 h => ?_)
        refine x_aload_n (pc := 43) 0 dX6_swap_43 rfl ?_
        refine x_iload_n (pc := 44) 1 dX6_swap_44 rfl ?_
        refine x_iload_n (pc := 45) 2 dX6_swap_45 rfl ?_
        refine x_Vv (μ := m_X6_swap) (pc := 46) dX6_swap_46 h k_X6_exchange ml_X6_241 ⟨Nat.le_of_ble_eq_true rfl, Nat.le_of_ble_eq_true rfl⟩ ⟨rfl, rfl⟩ ⟨Nat.zero_le _, Nat.zero_le _⟩ rfl (LM_ob hM) rfl (Nat.le_of_ble_eq_true rfl) _ rfl (fun I27 h => ?_)
        refine x_aload_n (pc := 49) 0 dX6_swap_49 rfl ?_
        refine x_Vi (μ := m_X6_swap) (pc := 50) dX6_swap_50 h k_X6_spanNow ml_X6_288 ⟨Nat.le_of_ble_eq_true rfl, Nat.le_of_ble_eq_true rfl⟩ ⟨rfl, rfl⟩ ⟨Nat.zero_le _, Nat.zero_le _⟩ rfl (LM_ob hM) rfl (Nat.le_of_ble_eq_true rfl) _ rfl (fun z28 I29 h => ?_)
        exact x_iret (pc := 53) dX6_swap_53 rfl (Nat.le_refl _) (Nat.le_refl _) ⟨_, rfl, rfl, h⟩
      · have h := hB25 hc
        refine x_iconst (pc := 37) dX6_swap_37 ?_
        exact x_iret (pc := 38) dX6_swap_38 rfl (Nat.le_refl _) (Nat.le_refl _) ⟨_, rfl, rfl, h⟩
