set_option maxRecDepth 100000 in
set_option maxHeartbeats 4000000 in
theorem t_X6_noOperation_0 {Γ : GG} {P : MP} {I : MM} {R : Int → MM → Prop} {x1 x2 : Int} (hM : LM Γ P)
    (h : (Cl Γ m_X6_noJob [vR 1, vI x1] P I (ri P (fun (z1 : Int) (I2 : MM) => (inR z1) ∧ ((z1 ≠ 0 → R 1 I2) ∧ (z1 = 0 → (Cl Γ m_X6_job [vI x1] P I2 (ri P (fun (z6 : Int) (I7 : MM) => (0 ≤ (z6 + 3)) ∧ ((z6 + 3) < 1655) ∧ (Cl Γ m_X6_in [vI x2, vI 0, vI ((I7 3 ((z6 + 3)).toNat) - 1)] P I7 (ri P (fun (z10 : Int) (I11 : MM) => (inR z10) ∧ ((z10 ≠ 0 → (Cl Γ m_X6_fails [vR 1, vI 0, vI 1] P I11 (ri P (fun (z15 : Int) (I16 : MM) => (inR z15) ∧ ((z15 = 0 → R 0 I16) ∧ (¬ z15 = 0 → R 1 I16)))))) ∧ (z10 = 0 → (Cl Γ m_X6_fails [vR 1, vI 1, vI 1] P I11 (ri P (fun (z20 : Int) (I21 : MM) => (inR z20) ∧ ((z20 = 0 → R 0 I21) ∧ (¬ z20 = 0 → R 1 I21))))))))))))))))))) :
    XM Γ m_X6_noOperation 0 0 0 [(0, vR 1), (1, vI x1), (2, vI x2)] [] P I (ri P R) := by
  refine x_aload_n (pc := 0) 0 dX6_noOperation_0 rfl ?_
  refine x_iload_n (pc := 1) 1 dX6_noOperation_1 rfl ?_
  refine x_Vi (μ := m_X6_noOperation) (pc := 2) dX6_noOperation_2 h k_X6_noJob ml_X6_269 ⟨Nat.le_of_ble_eq_true rfl, Nat.le_of_ble_eq_true rfl⟩ ⟨rfl, rfl⟩ ⟨Nat.zero_le _, Nat.zero_le _⟩ rfl (LM_ob hM) rfl (Nat.le_of_ble_eq_true rfl) _ rfl (fun z1 I2 h => ?_)
  obtain ⟨hr3, h⟩ := h
  obtain ⟨hA4, hB5⟩ := h
  refine x_if_ne (pc := 5) 42 dX6_noOperation_5 (by decide) hr3 (fun hc => ?_) (fun hc => ?_)
  · have h := hA4 hc
    refine x_iconst (pc := 42) dX6_noOperation_42 ?_
    refine x_goto (pc := 43) 47 dX6_noOperation_43 (by decide) ?_
    exact x_zret (pc := 47) dX6_noOperation_47 rfl (by decide) (Nat.le_refl _) (Nat.le_refl _) ⟨_, rfl, rfl, h⟩
  · have h := hB5 hc
    refine x_aload_n (pc := 8) 0 dX6_noOperation_8 rfl ?_
    refine x_iload_n (pc := 9) 2 dX6_noOperation_9 rfl ?_
    refine x_iconst (pc := 10) dX6_noOperation_10 ?_
    refine x_aload_n (pc := 11) 0 dX6_noOperation_11 rfl ?_
    refine x_getP (pc := 12) dX6_noOperation_12 FC6 8 (by decide) rfl fl_X6_17 (LM_ob hM) (LM_p8 hM) ?_
    refine x_iload_n (pc := 15) 1 dX6_noOperation_15 rfl ?_
    refine x_Si (μ := m_X6_noOperation) (pc := 16) dX6_noOperation_16 h k_X6_job ml_X6_147 ⟨Nat.le_of_ble_eq_true rfl, Nat.le_of_ble_eq_true rfl⟩ ⟨rfl, rfl⟩ ⟨Nat.zero_le _, Nat.zero_le _⟩ rfl (Nat.le_of_ble_eq_true rfl) _ rfl (fun z6 I7 h => ?_)
    refine x_iconst (pc := 19) dX6_noOperation_19 ?_
    refine x_iadd (pc := 20) dX6_noOperation_20 ?_
    obtain ⟨hv8, h⟩ := h
    obtain ⟨hv9, h⟩ := h
    refine x_iald (pc := 21) dX6_noOperation_21 (LM_a8 hM) hv8 hv9 (by decide) ?_
    refine x_iconst (pc := 22) dX6_noOperation_22 ?_
    refine x_isub (pc := 23) dX6_noOperation_23 ?_
    refine x_Si (μ := m_X6_noOperation) (pc := 24) dX6_noOperation_24 h k_X6_in ml_X6_73 ⟨Nat.le_of_ble_eq_true rfl, Nat.le_of_ble_eq_true rfl⟩ ⟨rfl, rfl⟩ ⟨Nat.zero_le _, Nat.zero_le _⟩ rfl (Nat.le_of_ble_eq_true rfl) _ rfl (fun z10 I11 h => ?_)
    obtain ⟨hr12, h⟩ := h
    obtain ⟨hA13, hB14⟩ := h
    refine x_if_ne (pc := 27) 34 dX6_noOperation_27 (by decide) hr12 (fun hc => ?_) (fun hc => ?_)
    · have h := hA13 hc
      refine x_iconst (pc := 34) dX6_noOperation_34 ?_
      refine x_iconst (pc := 35) dX6_noOperation_35 ?_
      refine x_Vi (μ := m_X6_noOperation) (pc := 36) dX6_noOperation_36 h k_X6_fails ml_X6_174 ⟨Nat.le_of_ble_eq_true rfl, Nat.le_of_ble_eq_true rfl⟩ ⟨rfl, rfl⟩ ⟨Nat.zero_le _, Nat.zero_le _⟩ rfl (LM_ob hM) rfl (Nat.le_of_ble_eq_true rfl) _ rfl (fun z15 I16 h => ?_)
      obtain ⟨hr17, h⟩ := h
      obtain ⟨hA18, hB19⟩ := h
      refine x_if_eq (pc := 39) 46 dX6_noOperation_39 (by decide) hr17 (fun hc => ?_) (fun hc => ?_)
      · have h := hA18 hc
        refine x_iconst (pc := 46) dX6_noOperation_46 ?_
        exact x_zret (pc := 47) dX6_noOperation_47 rfl (by decide) (Nat.le_refl _) (Nat.le_refl _) ⟨_, rfl, rfl, h⟩
      · have h := hB19 hc
        refine x_iconst (pc := 42) dX6_noOperation_42 ?_
        refine x_goto (pc := 43) 47 dX6_noOperation_43 (by decide) ?_
        exact x_zret (pc := 47) dX6_noOperation_47 rfl (by decide) (Nat.le_refl _) (Nat.le_refl _) ⟨_, rfl, rfl, h⟩
    · have h := hB14 hc
      refine x_iconst (pc := 30) dX6_noOperation_30 ?_
      refine x_goto (pc := 31) 35 dX6_noOperation_31 (by decide) ?_
      refine x_iconst (pc := 35) dX6_noOperation_35 ?_
      refine x_Vi (μ := m_X6_noOperation) (pc := 36) dX6_noOperation_36 h k_X6_fails ml_X6_174 ⟨Nat.le_of_ble_eq_true rfl, Nat.le_of_ble_eq_true rfl⟩ ⟨rfl, rfl⟩ ⟨Nat.zero_le _, Nat.zero_le _⟩ rfl (LM_ob hM) rfl (Nat.le_of_ble_eq_true rfl) _ rfl (fun z20 I21 h => ?_)
      obtain ⟨hr22, h⟩ := h
      obtain ⟨hA23, hB24⟩ := h
      refine x_if_eq (pc := 39) 46 dX6_noOperation_39 (by decide) hr22 (fun hc => ?_) (fun hc => ?_)
      · have h := hA23 hc
        refine x_iconst (pc := 46) dX6_noOperation_46 ?_
        exact x_zret (pc := 47) dX6_noOperation_47 rfl (by decide) (Nat.le_refl _) (Nat.le_refl _) ⟨_, rfl, rfl, h⟩
      · have h := hB24 hc
        refine x_iconst (pc := 42) dX6_noOperation_42 ?_
        refine x_goto (pc := 43) 47 dX6_noOperation_43 (by decide) ?_
        exact x_zret (pc := 47) dX6_noOperation_47 rfl (by decide) (Nat.le_refl _) (Nat.le_refl _) ⟨_, rfl, rfl, h⟩
set_option maxRecDepth 100000 in
set_option maxHeartbeats 4000000 in
theorem t_X6_noSwap_0 {Γ : GG} {P : MP} {I : MM} {R : Int → MM → Prop} {x1 x2 : Int} (hM : LM Γ P)
    (h : (Cl Γ m_X6_noMachine [vR 1, vI x1] P I (ri P (fun (z1 : Int) (I2 : MM) => (inR z1) ∧ ((z1 ≠ 0 → R 1 I2) ∧ (z1 = 0 → (Cl Γ m_X6_machine [vI x1] P I2 (ri P (fun (z6 : Int) (I7 : MM) => (0 ≤ (z6 + 2)) ∧ ((z6 + 2) < 1655) ∧ (Cl Γ m_X6_in [vI x2, vI 0, vI ((I7 3 ((z6 + 2)).toNat) - 2)] P I7 (ri P (fun (z10 : Int) (I11 : MM) => (inR z10) ∧ ((z10 ≠ 0 → (Cl Γ m_X6_fails [vR 1, vI 0, vI 1] P I11 (ri P (fun (z15 : Int) (I16 : MM) => (inR z15) ∧ ((z15 = 0 → R 0 I16) ∧ (¬ z15 = 0 → R 1 I16)))))) ∧ (z10 = 0 → (Cl Γ m_X6_fails [vR 1, vI 1, vI 1] P I11 (ri P (fun (z20 : Int) (I21 : MM) => (inR z20) ∧ ((z20 = 0 → R 0 I21) ∧ (¬ z20 = 0 → R 1 I21))))))))))))))))))) :
    XM Γ m_X6_noSwap 0 0 0 [(0, vR 1), (1, vI x1), (2, vI x2)] [] P I (ri P R) := by
  refine x_aload_n (pc := 0) 0 dX6_noSwap_0 rfl ?_
  refine x_iload_n (pc := 1) 1 dX6_noSwap_1 rfl ?_
  refine x_Vi (μ := m_X6_noSwap) (pc := 2) dX6_noSwap_2 h k_X6_noMachine ml_X6_272 ⟨Nat.le_of_ble_eq_true rfl, Nat.le_of_ble_eq_true rfl⟩ ⟨rfl, rfl⟩ ⟨Nat.zero_le _, Nat.zero_le _⟩ rfl (LM_ob hM) rfl (Nat.le_of_ble_eq_true rfl) _ rfl (fun z1 I2 h => ?_)
  obtain ⟨hr3, h⟩ := h
  obtain ⟨hA4, hB5⟩ := h
  refine x_if_ne (pc := 5) 42 dX6_noSwap_5 (by decide) hr3 (fun hc => ?_) (fun hc => ?_)
  · have h := hA4 hc
    refine x_iconst (pc := 42) dX6_noSwap_42 ?_
    refine x_goto (pc := 43) 47 dX6_noSwap_43 (by decide) ?_
    exact x_zret (pc := 47) dX6_noSwap_47 rfl (by decide) (Nat.le_refl _) (Nat.le_refl _) ⟨_, rfl, rfl, h⟩
  · have h := hB5 hc
    refine x_aload_n (pc := 8) 0 dX6_noSwap_8 rfl ?_
    refine x_iload_n (pc := 9) 2 dX6_noSwap_9 rfl ?_
    refine x_iconst (pc := 10) dX6_noSwap_10 ?_
    refine x_aload_n (pc := 11) 0 dX6_noSwap_11 rfl ?_
    refine x_getP (pc := 12) dX6_noSwap_12 FC6 8 (by decide) rfl fl_X6_17 (LM_ob hM) (LM_p8 hM) ?_
    refine x_iload_n (pc := 15) 1 dX6_noSwap_15 rfl ?_
    refine x_Si (μ := m_X6_noSwap) (pc := 16) dX6_noSwap_16 h k_X6_machine ml_X6_158 ⟨Nat.le_of_ble_eq_true rfl, Nat.le_of_ble_eq_true rfl⟩ ⟨rfl, rfl⟩ ⟨Nat.zero_le _, Nat.zero_le _⟩ rfl (Nat.le_of_ble_eq_true rfl) _ rfl (fun z6 I7 h => ?_)
    refine x_iconst (pc := 19) dX6_noSwap_19 ?_
    refine x_iadd (pc := 20) dX6_noSwap_20 ?_
    obtain ⟨hv8, h⟩ := h
    obtain ⟨hv9, h⟩ := h
    refine x_iald (pc := 21) dX6_noSwap_21 (LM_a8 hM) hv8 hv9 (by decide) ?_
    refine x_iconst (pc := 22) dX6_noSwap_22 ?_
    refine x_isub (pc := 23) dX6_noSwap_23 ?_
    refine x_Si (μ := m_X6_noSwap) (pc := 24) dX6_noSwap_24 h k_X6_in ml_X6_73 ⟨Nat.le_of_ble_eq_true rfl, Nat.le_of_ble_eq_true rfl⟩ ⟨rfl, rfl⟩ ⟨Nat.zero_le _, Nat.zero_le _⟩ rfl (Nat.le_of_ble_eq_true rfl) _ rfl (fun z10 I11 h => ?_)
    obtain ⟨hr12, h⟩ := h
    obtain ⟨hA13, hB14⟩ := h
    refine x_if_ne (pc := 27) 34 dX6_noSwap_27 (by decide) hr12 (fun hc => ?_) (fun hc => ?_)
    · have h := hA13 hc
      refine x_iconst (pc := 34) dX6_noSwap_34 ?_
      refine x_iconst (pc := 35) dX6_noSwap_35 ?_
      refine x_Vi (μ := m_X6_noSwap) (pc := 36) dX6_noSwap_36 h k_X6_fails ml_X6_174 ⟨Nat.le_of_ble_eq_true rfl, Nat.le_of_ble_eq_true rfl⟩ ⟨rfl, rfl⟩ ⟨Nat.zero_le _, Nat.zero_le _⟩ rfl (LM_ob hM) rfl (Nat.le_of_ble_eq_true rfl) _ rfl (fun z15 I16 h => ?_)
      obtain ⟨hr17, h⟩ := h
      obtain ⟨hA18, hB19⟩ := h
      refine x_if_eq (pc := 39) 46 dX6_noSwap_39 (by decide) hr17 (fun hc => ?_) (fun hc => ?_)
      · have h := hA18 hc
        refine x_iconst (pc := 46) dX6_noSwap_46 ?_
        exact x_zret (pc := 47) dX6_noSwap_47 rfl (by decide) (Nat.le_refl _) (Nat.le_refl _) ⟨_, rfl, rfl, h⟩
      · have h := hB19 hc
        refine x_iconst (pc := 42) dX6_noSwap_42 ?_
        refine x_goto (pc := 43) 47 dX6_noSwap_43 (by decide) ?_
        exact x_zret (pc := 47) dX6_noSwap_47 rfl (by decide) (Nat.le_refl _) (Nat.le_refl _) ⟨_, rfl, rfl, h⟩
    · have h := hB14 hc
      refine x_iconst (pc := 30) dX6_noSwap_30 ?_
      refine x_goto (pc := 31) 35 dX6_noSwap_31 (by decide) ?_
      refine x_iconst (pc := 35) dX6_noSwap_35 ?_
      refine x_Vi (μ := m_X6_noSwap) (pc := 36) dX6_noSwap_36 h k_X6_fails ml_X6_174 ⟨Nat.le_of_ble_eq_true rfl, Nat.le_of_ble_eq_true rfl⟩ ⟨rfl, rfl⟩ ⟨Nat.zero_le _, Nat.zero_le _⟩ rfl (LM_ob hM) rfl (Nat.le_of_ble_eq_true rfl) _ rfl (fun z20 I21 h => ?_)
      obtain ⟨hr22, h⟩ := h
      obtain ⟨hA23, hB24⟩ := h
      refine x_if_eq (pc := 39) 46 dX6_noSwap_39 (by decide) hr22 (fun hc => ?_) (fun hc => ?_)
      · have h := hA23 hc
        refine x_iconst (pc := 46) dX6_noSwap_46 ?_
        exact x_zret (pc := 47) dX6_noSwap_47 rfl (by decide) (Nat.le_refl _) (Nat.le_refl _) ⟨_, rfl, rfl, h⟩
      · have h := hB24 hc
        refine x_iconst (pc := 42) dX6_noSwap_42 ?_
        refine x_goto (pc := 43) 47 dX6_noSwap_43 (by decide) ?_
        exact x_zret (pc := 47) dX6_noSwap_47 rfl (by decide) (Nat.le_refl _) (Nat.le_refl _) ⟨_, rfl, rfl, h⟩
set_option maxRecDepth 100000 in
set_option maxHeartbeats 4000000 in
theorem t_X6_machineCount_0 {Γ : GG} {P : MP} {I : MM} {R : Int → MM → Prop} (hM : LM Γ P)
    (h : (∀ I1 : MM, I1 = up2 I 1 0 0 → R (I1 3 0) I1)) :
    XM Γ m_X6_machineCount 0 0 0 [(0, vR 1)] [] P I (ri P R) := by
  refine x_aload_n (pc := 0) 0 dX6_machineCount_0 rfl ?_
  refine x_iconst (pc := 1) dX6_machineCount_1 ?_
  refine x_putI (pc := 2) dX6_machineCount_2 FC6 0 (by decide) rfl rfl fl_X6_51 (LM_ob hM) ?_
  refine x_nmI (fun I1 eI1 => ?_)
  have h := h I1 eI1
  refine x_aload_n (pc := 5) 0 dX6_machineCount_5 rfl ?_
  refine x_getP (pc := 6) dX6_machineCount_6 FC6 8 (by decide) rfl fl_X6_17 (LM_ob hM) (LM_p8 hM) ?_
  refine x_iconst (pc := 9) dX6_machineCount_9 ?_
  refine x_iald (pc := 10) dX6_machineCount_10 (LM_a8 hM) (by decide) (by decide) (by decide) ?_
  exact x_iret (pc := 11) dX6_machineCount_11 rfl (Nat.le_refl _) (Nat.le_refl _) ⟨_, rfl, rfl, h⟩
set_option maxRecDepth 100000 in
set_option maxHeartbeats 4000000 in
theorem t_X6_jobCount_0 {Γ : GG} {P : MP} {I : MM} {R : Int → MM → Prop} (hM : LM Γ P)
    (h : (∀ I1 : MM, I1 = up2 I 1 0 0 → R (I1 3 2) I1)) :
    XM Γ m_X6_jobCount 0 0 0 [(0, vR 1)] [] P I (ri P R) := by
  refine x_aload_n (pc := 0) 0 dX6_jobCount_0 rfl ?_
  refine x_iconst (pc := 1) dX6_jobCount_1 ?_
  refine x_putI (pc := 2) dX6_jobCount_2 FC6 0 (by decide) rfl rfl fl_X6_51 (LM_ob hM) ?_
  refine x_nmI (fun I1 eI1 => ?_)
  have h := h I1 eI1
  refine x_aload_n (pc := 5) 0 dX6_jobCount_5 rfl ?_
  refine x_getP (pc := 6) dX6_jobCount_6 FC6 8 (by decide) rfl fl_X6_17 (LM_ob hM) (LM_p8 hM) ?_
  refine x_iconst (pc := 9) dX6_jobCount_9 ?_
  refine x_iald (pc := 10) dX6_jobCount_10 (LM_a8 hM) (by decide) (by decide) (by decide) ?_
  exact x_iret (pc := 11) dX6_jobCount_11 rfl (Nat.le_refl _) (Nat.le_refl _) ⟨_, rfl, rfl, h⟩
set_option maxRecDepth 100000 in
set_option maxHeartbeats 4000000 in
theorem t_X6_operationCount_0 {Γ : GG} {P : MP} {I : MM} {R : Int → MM → Prop} {x1 : Int} (hM : LM Γ P)
    (h : (∀ I1 : MM, I1 = up2 I 1 0 0 → (Cl Γ m_X6_noJob [vR 1, vI x1] P I1 (ri P (fun (z2 : Int) (I3 : MM) => (inR z2) ∧ ((z2 = 0 → (Cl Γ m_X6_job [vI x1] P I3 (ri P (fun (z7 : Int) (I8 : MM) => (0 ≤ (z7 + 3)) ∧ ((z7 + 3) < 1655) ∧ R (I8 3 ((z7 + 3)).toNat) I8)))) ∧ (¬ z2 = 0 → R 0 I3))))))) :
    XM Γ m_X6_operationCount 0 0 0 [(0, vR 1), (1, vI x1)] [] P I (ri P R) := by
  refine x_aload_n (pc := 0) 0 dX6_operationCount_0 rfl ?_
  refine x_iconst (pc := 1) dX6_operationCount_1 ?_
  refine x_putI (pc := 2) dX6_operationCount_2 FC6 0 (by decide) rfl rfl fl_X6_51 (LM_ob hM) ?_
  refine x_nmI (fun I1 eI1 => ?_)
  have h := h I1 eI1
  refine x_aload_n (pc := 5) 0 dX6_operationCount_5 rfl ?_
  refine x_iload_n (pc := 6) 1 dX6_operationCount_6 rfl ?_
  refine x_Vi (μ := m_X6_operationCount) (pc := 7) dX6_operationCount_7 h k_X6_noJob ml_X6_269 ⟨Nat.le_of_ble_eq_true rfl, Nat.le_of_ble_eq_true rfl⟩ ⟨rfl, rfl⟩ ⟨Nat.zero_le _, Nat.zero_le _⟩ rfl (LM_ob hM) rfl (Nat.le_of_ble_eq_true rfl) _ rfl (fun z2 I3 h => ?_)
  obtain ⟨hr4, h⟩ := h
  obtain ⟨hA5, hB6⟩ := h
  refine x_if_eq (pc := 10) 17 dX6_operationCount_10 (by decide) hr4 (fun hc => ?_) (fun hc => ?_)
  · have h := hA5 hc
    refine x_aload_n (pc := 17) 0 dX6_operationCount_17 rfl ?_
    refine x_getP (pc := 18) dX6_operationCount_18 FC6 8 (by decide) rfl fl_X6_17 (LM_ob hM) (LM_p8 hM) ?_
    refine x_iload_n (pc := 21) 1 dX6_operationCount_21 rfl ?_
    refine x_Si (μ := m_X6_operationCount) (pc := 22) dX6_operationCount_22 h k_X6_job ml_X6_147 ⟨Nat.le_of_ble_eq_true rfl, Nat.le_of_ble_eq_true rfl⟩ ⟨rfl, rfl⟩ ⟨Nat.zero_le _, Nat.zero_le _⟩ rfl (Nat.le_of_ble_eq_true rfl) _ rfl (fun z7 I8 h => ?_)
    refine x_iconst (pc := 25) dX6_operationCount_25 ?_
    refine x_iadd (pc := 26) dX6_operationCount_26 ?_
    obtain ⟨hv9, h⟩ := h
    obtain ⟨hv10, h⟩ := h
    refine x_iald (pc := 27) dX6_operationCount_27 (LM_a8 hM) hv9 hv10 (by decide) ?_
    exact x_iret (pc := 28) dX6_operationCount_28 rfl (Nat.le_refl _) (Nat.le_refl _) ⟨_, rfl, rfl, h⟩
  · have h := hB6 hc
    refine x_iconst (pc := 13) dX6_operationCount_13 ?_
    refine x_goto (pc := 14) 28 dX6_operationCount_14 (by decide) ?_
    exact x_iret (pc := 28) dX6_operationCount_28 rfl (Nat.le_refl _) (Nat.le_refl _) ⟨_, rfl, rfl, h⟩
set_option maxRecDepth 100000 in
set_option maxHeartbeats 4000000 in
theorem t_X6_operation_0 {Γ : GG} {P : MP} {I : MM} {R : Int → MM → Prop} {x1 x2 x3 : Int} (hM : LM Γ P)
    (h : (∀ I1 : MM, I1 = up2 I 1 0 0 → (Cl Γ m_X6_noOperation [vR 1, vI x1, vI x2] P I1 (ri P (fun (z2 : Int) (I3 : MM) => (inR z2) ∧ ((z2 ≠ 0 → R 0 I3) ∧ (z2 = 0 → (Cl Γ m_X6_in [vI x3, vI 0, vI 2] P I3 (ri P (fun (z7 : Int) (I8 : MM) => (inR z7) ∧ ((z7 ≠ 0 → (Cl Γ m_X6_fails [vR 1, vI 0, vI 2] P I8 (ri P (fun (z12 : Int) (I13 : MM) => (inR z12) ∧ ((z12 = 0 → (∀ u17 : Int, u17 = ((6 * x1) + x2) → (inR x3) ∧ ((x3 ≠ 2 → (Cl Γ m_X6_operationAt [vI u17] P I13 (ri P (fun (z21 : Int) (I22 : MM) => (0 ≤ (z21 + x3)) ∧ ((z21 + x3) < 1655) ∧ R (I22 3 ((z21 + x3)).toNat) I22)))) ∧ (x3 = 2 → (Cl Γ m_X6_placeOf [vR 1, vI u17] P I13 (ri P (fun (z25 : Int) (I26 : MM) => R z25 I26))))))) ∧ (¬ z12 = 0 → R 0 I13)))))) ∧ (z7 = 0 → (Cl Γ m_X6_fails [vR 1, vI 1, vI 2] P I8 (ri P (fun (z27 : Int) (I28 : MM) => (inR z27) ∧ ((z27 = 0 → (∀ u32 : Int, u32 = ((6 * x1) + x2) → (inR x3) ∧ ((x3 ≠ 2 → (Cl Γ m_X6_operationAt [vI u32] P I28 (ri P (fun (z36 : Int) (I37 : MM) => (0 ≤ (z36 + x3)) ∧ ((z36 + x3) < 1655) ∧ R (I37 3 ((z36 + x3)).toNat) I37)))) ∧ (x3 = 2 → (Cl Γ m_X6_placeOf [vR 1, vI u32] P I28 (ri P (fun (z40 : Int) (I41 : MM) => R z40 I41))))))) ∧ (¬ z27 = 0 → R 0 I28))))))))))))))))) :
    XM Γ m_X6_operation 0 0 0 [(0, vR 1), (1, vI x1), (2, vI x2), (3, vI x3)] [] P I (ri P R) := by
  refine x_aload_n (pc := 0) 0 dX6_operation_0 rfl ?_
  refine x_iconst (pc := 1) dX6_operation_1 ?_
  refine x_putI (pc := 2) dX6_operation_2 FC6 0 (by decide) rfl rfl fl_X6_51 (LM_ob hM) ?_
  refine x_nmI (fun I1 eI1 => ?_)
  have h := h I1 eI1
  refine x_aload_n (pc := 5) 0 dX6_operation_5 rfl ?_
  refine x_iload_n (pc := 6) 1 dX6_operation_6 rfl ?_
  refine x_iload_n (pc := 7) 2 dX6_operation_7 rfl ?_
  refine x_Vi (μ := m_X6_operation) (pc := 8) dX6_operation_8 h k_X6_noOperation ml_X6_275 ⟨Nat.le_of_ble_eq_true rfl, Nat.le_of_ble_eq_true rfl⟩ ⟨rfl, rfl⟩ ⟨Nat.zero_le _, Nat.zero_le _⟩ rfl (LM_ob hM) rfl (Nat.le_of_ble_eq_true rfl) _ rfl (fun z2 I3 h => ?_)
  obtain ⟨hr4, h⟩ := h
  obtain ⟨hA5, hB6⟩ := h
  refine x_if_ne (pc := 11) 36 dX6_operation_11 (by decide) hr4 (fun hc => ?_) (fun hc => ?_)
  · have h := hA5 hc
    refine x_iconst (pc := 36) dX6_operation_36 ?_
    exact x_iret (pc := 37) dX6_operation_37 rfl (Nat.le_refl _) (Nat.le_refl _) ⟨_, rfl, rfl, h⟩
  · have h := hB6 hc
    refine x_aload_n (pc := 14) 0 dX6_operation_14 rfl ?_
    refine x_iload_n (pc := 15) 3 dX6_operation_15 rfl ?_
    refine x_iconst (pc := 16) dX6_operation_16 ?_
    refine x_iconst (pc := 17) dX6_operation_17 ?_
    refine x_Si (μ := m_X6_operation) (pc := 18) dX6_operation_18 h k_X6_in ml_X6_73 ⟨Nat.le_of_ble_eq_true rfl, Nat.le_of_ble_eq_true rfl⟩ ⟨rfl, rfl⟩ ⟨Nat.zero_le _, Nat.zero_le _⟩ rfl (Nat.le_of_ble_eq_true rfl) _ rfl (fun z7 I8 h => ?_)
    obtain ⟨hr9, h⟩ := h
    obtain ⟨hA10, hB11⟩ := h
    refine x_if_ne (pc := 21) 28 dX6_operation_21 (by decide) hr9 (fun hc => ?_) (fun hc => ?_)
    · have h := hA10 hc
      refine x_iconst (pc := 28) dX6_operation_28 ?_
      refine x_iconst (pc := 29) dX6_operation_29 ?_
      refine x_Vi (μ := m_X6_operation) (pc := 30) dX6_operation_30 h k_X6_fails ml_X6_174 ⟨Nat.le_of_ble_eq_true rfl, Nat.le_of_ble_eq_true rfl⟩ ⟨rfl, rfl⟩ ⟨Nat.zero_le _, Nat.zero_le _⟩ rfl (LM_ob hM) rfl (Nat.le_of_ble_eq_true rfl) _ rfl (fun z12 I13 h => ?_)
      obtain ⟨hr14, h⟩ := h
      obtain ⟨hA15, hB16⟩ := h
      refine x_if_eq (pc := 33) 38 dX6_operation_33 (by decide) hr14 (fun hc => ?_) (fun hc => ?_)
      · have h := hA15 hc
        refine x_bipush (pc := 38) dX6_operation_38 rfl ?_
        refine x_iload_n (pc := 40) 1 dX6_operation_40 rfl ?_
        refine x_imul (pc := 41) dX6_operation_41 ?_
        refine x_iload_n (pc := 42) 2 dX6_operation_42 rfl ?_
        refine x_iadd (pc := 43) dX6_operation_43 ?_
        refine x_nmT (fun u17 eu17 => ?_)
        have h := h u17 eu17
        refine x_istore (pc := 44) (al' := [(0, vR 1), (1, vI x1), (2, vI x2), (3, vI x3), (4, vI u17)]) dX6_operation_44 rfl rfl (Nat.le_of_ble_eq_true rfl) ?_
        refine x_iload_n (pc := 46) 3 dX6_operation_46 rfl ?_
        refine x_iconst (pc := 47) dX6_operation_47 ?_
        obtain ⟨hr18, h⟩ := h
        obtain ⟨hA19, hB20⟩ := h
        refine x_icmp_ne (pc := 48) 60 dX6_operation_48 (by decide) hr18 ⟨by decide, by decide⟩ (fun hc => ?_) (fun hc => ?_)
        · have h := hA19 hc
          refine x_aload_n (pc := 60) 0 dX6_operation_60 rfl ?_
          refine x_getP (pc := 61) dX6_operation_61 FC6 8 (by decide) rfl fl_X6_17 (LM_ob hM) (LM_p8 hM) ?_
          refine x_iload (pc := 64) 4 dX6_operation_64 rfl ?_
          refine x_Si (μ := m_X6_operation) (pc := 66) dX6_operation_66 h k_X6_operationAt ml_X6_155 ⟨Nat.le_of_ble_eq_true rfl, Nat.le_of_ble_eq_true rfl⟩ ⟨rfl, rfl⟩ ⟨Nat.zero_le _, Nat.zero_le _⟩ rfl (Nat.le_of_ble_eq_true rfl) _ rfl (fun z21 I22 h => ?_)
          refine x_iload_n (pc := 69) 3 dX6_operation_69 rfl ?_
          refine x_iadd (pc := 70) dX6_operation_70 ?_
          obtain ⟨hv23, h⟩ := h
          obtain ⟨hv24, h⟩ := h
          refine x_iald (pc := 71) dX6_operation_71 (LM_a8 hM) hv23 hv24 (by decide) ?_
          exact x_iret (pc := 72) dX6_operation_72 rfl (Nat.le_refl _) (Nat.le_refl _) ⟨_, rfl, rfl, h⟩
        · have h := hB20 hc
          refine x_aload_n (pc := 51) 0 dX6_operation_51 rfl ?_
          refine x_iload (pc := 52) 4 dX6_operation_52 rfl ?_
          refine x_Vi (μ := m_X6_operation) (pc := 54) dX6_operation_54 h k_X6_placeOf ml_X6_279 ⟨Nat.le_of_ble_eq_true rfl, Nat.le_of_ble_eq_true rfl⟩ ⟨rfl, rfl⟩ ⟨Nat.zero_le _, Nat.zero_le _⟩ rfl (LM_ob hM) rfl (Nat.le_of_ble_eq_true rfl) _ rfl (fun z25 I26 h => ?_)
          refine x_goto (pc := 57) 72 dX6_operation_57 (by decide) ?_
          exact x_iret (pc := 72) dX6_operation_72 rfl (Nat.le_refl _) (Nat.le_refl _) ⟨_, rfl, rfl, h⟩
      · have h := hB16 hc
        refine x_iconst (pc := 36) dX6_operation_36 ?_
        exact x_iret (pc := 37) dX6_operation_37 rfl (Nat.le_refl _) (Nat.le_refl _) ⟨_, rfl, rfl, h⟩
    · have h := hB11 hc
      refine x_iconst (pc := 24) dX6_operation_24 ?_
      refine x_goto (pc := 25) 29 dX6_operation_25 (by decide) ?_
      refine x_iconst (pc := 29) dX6_operation_29 ?_
      refine x_Vi (μ := m_X6_operation) (pc := 30) dX6_operation_30 h k_X6_fails ml_X6_174 ⟨Nat.le_of_ble_eq_true rfl, Nat.le_of_ble_eq_true rfl⟩ ⟨rfl, rfl⟩ ⟨Nat.zero_le _, Nat.zero_le _⟩ rfl (LM_ob hM) rfl (Nat.le_of_ble_eq_true rfl) _ rfl (fun z27 I28 h => ?_)
      obtain ⟨hr29, h⟩ := h
      obtain ⟨hA30, hB31⟩ := h
      refine x_if_eq (pc := 33) 38 dX6_operation_33 (by decide) hr29 (fun hc => ?_) (fun hc => ?_)
      · have h := hA30 hc
        refine x_bipush (pc := 38) dX6_operation_38 rfl ?_
        refine x_iload_n (pc := 40) 1 dX6_operation_40 rfl ?_
        refine x_imul (pc := 41) dX6_operation_41 ?_
        refine x_iload_n (pc := 42) 2 dX6_operation_42 rfl ?_
        refine x_iadd (pc := 43) dX6_operation_43 ?_
        refine x_nmT (fun u32 eu32 => ?_)
        have h := h u32 eu32
        refine x_istore (pc := 44) (al' := [(0, vR 1), (1, vI x1), (2, vI x2), (3, vI x3), (4, vI u32)]) dX6_operation_44 rfl rfl (Nat.le_of_ble_eq_true rfl) ?_
        refine x_iload_n (pc := 46) 3 dX6_operation_46 rfl ?_
        refine x_iconst (pc := 47) dX6_operation_47 ?_
        obtain ⟨hr33, h⟩ := h
        obtain ⟨hA34, hB35⟩ := h
        refine x_icmp_ne (pc := 48) 60 dX6_operation_48 (by decide) hr33 ⟨by decide, by decide⟩ (fun hc => ?_) (fun hc => ?_)
        · have h := hA34 hc
          refine x_aload_n (pc := 60) 0 dX6_operation_60 rfl ?_
          refine x_getP (pc := 61) dX6_operation_61 FC6 8 (by decide) rfl fl_X6_17 (LM_ob hM) (LM_p8 hM) ?_
          refine x_iload (pc := 64) 4 dX6_operation_64 rfl ?_
          refine x_Si (μ := m_X6_operation) (pc := 66) dX6_operation_66 h k_X6_operationAt ml_X6_155 ⟨Nat.le_of_ble_eq_true rfl, Nat.le_of_ble_eq_true rfl⟩ ⟨rfl, rfl⟩ ⟨Nat.zero_le _, Nat.zero_le _⟩ rfl (Nat.le_of_ble_eq_true rfl) _ rfl (fun z36 I37 h => ?_)
          refine x_iload_n (pc := 69) 3 dX6_operation_69 rfl ?_
          refine x_iadd (pc := 70) dX6_operation_70 ?_
          obtain ⟨hv38, h⟩ := h
          obtain ⟨hv39, h⟩ := h
          refine x_iald (pc := 71) dX6_operation_71 (LM_a8 hM) hv38 hv39 (by decide) ?_
          exact x_iret (pc := 72) dX6_operation_72 rfl (Nat.le_refl _) (Nat.le_refl _) ⟨_, rfl, rfl, h⟩
        · have h := hB35 hc
          refine x_aload_n (pc := 51) 0 dX6_operation_51 rfl ?_
          refine x_iload (pc := 52) 4 dX6_operation_52 rfl ?_
          refine x_Vi (μ := m_X6_operation) (pc := 54) dX6_operation_54 h k_X6_placeOf ml_X6_279 ⟨Nat.le_of_ble_eq_true rfl, Nat.le_of_ble_eq_true rfl⟩ ⟨rfl, rfl⟩ ⟨Nat.zero_le _, Nat.zero_le _⟩ rfl (LM_ob hM) rfl (Nat.le_of_ble_eq_true rfl) _ rfl (fun z40 I41 h => ?_)
          refine x_goto (pc := 57) 72 dX6_operation_57 (by decide) ?_
          exact x_iret (pc := 72) dX6_operation_72 rfl (Nat.le_refl _) (Nat.le_refl _) ⟨_, rfl, rfl, h⟩
      · have h := hB31 hc
        refine x_iconst (pc := 36) dX6_operation_36 ?_
        exact x_iret (pc := 37) dX6_operation_37 rfl (Nat.le_refl _) (Nat.le_refl _) ⟨_, rfl, rfl, h⟩
set_option maxRecDepth 100000 in
set_option maxHeartbeats 4000000 in
theorem t_X6_orderLength_0 {Γ : GG} {P : MP} {I : MM} {R : Int → MM → Prop} {x1 : Int} (hM : LM Γ P)
    (h : (∀ I1 : MM, I1 = up2 I 1 0 0 → (Cl Γ m_X6_noMachine [vR 1, vI x1] P I1 (ri P (fun (z2 : Int) (I3 : MM) => (inR z2) ∧ ((z2 = 0 → (Cl Γ m_X6_machine [vI x1] P I3 (ri P (fun (z7 : Int) (I8 : MM) => (0 ≤ (z7 + 2)) ∧ ((z7 + 2) < 1655) ∧ R (I8 3 ((z7 + 2)).toNat) I8)))) ∧ (¬ z2 = 0 → R 0 I3))))))) :
    XM Γ m_X6_orderLength 0 0 0 [(0, vR 1), (1, vI x1)] [] P I (ri P R) := by
  refine x_aload_n (pc := 0) 0 dX6_orderLength_0 rfl ?_
  refine x_iconst (pc := 1) dX6_orderLength_1 ?_
  refine x_putI (pc := 2) dX6_orderLength_2 FC6 0 (by decide) rfl rfl fl_X6_51 (LM_ob hM) ?_
  refine x_nmI (fun I1 eI1 => ?_)
  have h := h I1 eI1
  refine x_aload_n (pc := 5) 0 dX6_orderLength_5 rfl ?_
  refine x_iload_n (pc := 6) 1 dX6_orderLength_6 rfl ?_
  refine x_Vi (μ := m_X6_orderLength) (pc := 7) dX6_orderLength_7 h k_X6_noMachine ml_X6_272 ⟨Nat.le_of_ble_eq_true rfl, Nat.le_of_ble_eq_true rfl⟩ ⟨rfl, rfl⟩ ⟨Nat.zero_le _, Nat.zero_le _⟩ rfl (LM_ob hM) rfl (Nat.le_of_ble_eq_true rfl) _ rfl (fun z2 I3 h => ?_)
  obtain ⟨hr4, h⟩ := h
  obtain ⟨hA5, hB6⟩ := h
  refine x_if_eq (pc := 10) 17 dX6_orderLength_10 (by decide) hr4 (fun hc => ?_) (fun hc => ?_)
  · have h := hA5 hc
    refine x_aload_n (pc := 17) 0 dX6_orderLength_17 rfl ?_
    refine x_getP (pc := 18) dX6_orderLength_18 FC6 8 (by decide) rfl fl_X6_17 (LM_ob hM) (LM_p8 hM) ?_
    refine x_iload_n (pc := 21) 1 dX6_orderLength_21 rfl ?_
    refine x_Si (μ := m_X6_orderLength) (pc := 22) dX6_orderLength_22 h k_X6_machine ml_X6_158 ⟨Nat.le_of_ble_eq_true rfl, Nat.le_of_ble_eq_true rfl⟩ ⟨rfl, rfl⟩ ⟨Nat.zero_le _, Nat.zero_le _⟩ rfl (Nat.le_of_ble_eq_true rfl) _ rfl (fun z7 I8 h => ?_)
    refine x_iconst (pc := 25) dX6_orderLength_25 ?_
    refine x_iadd (pc := 26) dX6_orderLength_26 ?_
    obtain ⟨hv9, h⟩ := h
    obtain ⟨hv10, h⟩ := h
    refine x_iald (pc := 27) dX6_orderLength_27 (LM_a8 hM) hv9 hv10 (by decide) ?_
    exact x_iret (pc := 28) dX6_orderLength_28 rfl (Nat.le_refl _) (Nat.le_refl _) ⟨_, rfl, rfl, h⟩
  · have h := hB6 hc
    refine x_iconst (pc := 13) dX6_orderLength_13 ?_
    refine x_goto (pc := 14) 28 dX6_orderLength_14 (by decide) ?_
    exact x_iret (pc := 28) dX6_orderLength_28 rfl (Nat.le_refl _) (Nat.le_refl _) ⟨_, rfl, rfl, h⟩
set_option maxRecDepth 100000 in
set_option maxHeartbeats 4000000 in
theorem t_X6_orderAt_0 {Γ : GG} {P : MP} {I : MM} {R : Int → MM → Prop} {x1 x2 : Int} (hM : LM Γ P)
    (h : (∀ I1 : MM, I1 = up2 I 1 0 0 → (Cl Γ m_X6_noMachine [vR 1, vI x1] P I1 (ri P (fun (z2 : Int) (I3 : MM) => (inR z2) ∧ ((z2 ≠ 0 → R 0 I3) ∧ (z2 = 0 → (Cl Γ m_X6_machine [vI x1] P I3 (ri P (fun (z7 : Int) (I8 : MM) => (0 ≤ (z7 + 2)) ∧ ((z7 + 2) < 1655) ∧ (Cl Γ m_X6_in [vI x2, vI 0, vI ((I8 3 ((z7 + 2)).toNat) - 1)] P I8 (ri P (fun (z11 : Int) (I12 : MM) => (inR z11) ∧ ((z11 ≠ 0 → (Cl Γ m_X6_fails [vR 1, vI 0, vI 1] P I12 (ri P (fun (z16 : Int) (I17 : MM) => (inR z16) ∧ ((z16 = 0 → (Cl Γ m_X6_machine [vI x1] P I17 (ri P (fun (z21 : Int) (I22 : MM) => (0 ≤ ((z21 + 3) + x2)) ∧ (((z21 + 3) + x2) < 1655) ∧ (Cl Γ m_X6_told [vI (I22 3 (((z21 + 3) + x2)).toNat)] P I22 (ri P (fun (z25 : Int) (I26 : MM) => R z25 I26))))))) ∧ (¬ z16 = 0 → R 0 I17)))))) ∧ (z11 = 0 → (Cl Γ m_X6_fails [vR 1, vI 1, vI 1] P I12 (ri P (fun (z27 : Int) (I28 : MM) => (inR z27) ∧ ((z27 = 0 → (Cl Γ m_X6_machine [vI x1] P I28 (ri P (fun (z32 : Int) (I33 : MM) => (0 ≤ ((z32 + 3) + x2)) ∧ (((z32 + 3) + x2) < 1655) ∧ (Cl Γ m_X6_told [vI (I33 3 (((z32 + 3) + x2)).toNat)] P I33 (ri P (fun (z36 : Int) (I37 : MM) => R z36 I37))))))) ∧ (¬ z27 = 0 → R 0 I28)))))))))))))))))))) :
    XM Γ m_X6_orderAt 0 0 0 [(0, vR 1), (1, vI x1), (2, vI x2)] [] P I (ri P R) := by
  refine x_aload_n (pc := 0) 0 dX6_orderAt_0 rfl ?_
  refine x_iconst (pc := 1) dX6_orderAt_1 ?_
  refine x_putI (pc := 2) dX6_orderAt_2 FC6 0 (by decide) rfl rfl fl_X6_51 (LM_ob hM) ?_
  refine x_nmI (fun I1 eI1 => ?_)
  have h := h I1 eI1
  refine x_aload_n (pc := 5) 0 dX6_orderAt_5 rfl ?_
  refine x_iload_n (pc := 6) 1 dX6_orderAt_6 rfl ?_
  refine x_Vi (μ := m_X6_orderAt) (pc := 7) dX6_orderAt_7 h k_X6_noMachine ml_X6_272 ⟨Nat.le_of_ble_eq_true rfl, Nat.le_of_ble_eq_true rfl⟩ ⟨rfl, rfl⟩ ⟨Nat.zero_le _, Nat.zero_le _⟩ rfl (LM_ob hM) rfl (Nat.le_of_ble_eq_true rfl) _ rfl (fun z2 I3 h => ?_)
  obtain ⟨hr4, h⟩ := h
  obtain ⟨hA5, hB6⟩ := h
  refine x_if_ne (pc := 10) 47 dX6_orderAt_10 (by decide) hr4 (fun hc => ?_) (fun hc => ?_)
  · have h := hA5 hc
    refine x_iconst (pc := 47) dX6_orderAt_47 ?_
    refine x_goto (pc := 48) 67 dX6_orderAt_48 (by decide) ?_
    exact x_iret (pc := 67) dX6_orderAt_67 rfl (Nat.le_refl _) (Nat.le_refl _) ⟨_, rfl, rfl, h⟩
  · have h := hB6 hc
    refine x_aload_n (pc := 13) 0 dX6_orderAt_13 rfl ?_
    refine x_iload_n (pc := 14) 2 dX6_orderAt_14 rfl ?_
    refine x_iconst (pc := 15) dX6_orderAt_15 ?_
    refine x_aload_n (pc := 16) 0 dX6_orderAt_16 rfl ?_
    refine x_getP (pc := 17) dX6_orderAt_17 FC6 8 (by decide) rfl fl_X6_17 (LM_ob hM) (LM_p8 hM) ?_
    refine x_iload_n (pc := 20) 1 dX6_orderAt_20 rfl ?_
    refine x_Si (μ := m_X6_orderAt) (pc := 21) dX6_orderAt_21 h k_X6_machine ml_X6_158 ⟨Nat.le_of_ble_eq_true rfl, Nat.le_of_ble_eq_true rfl⟩ ⟨rfl, rfl⟩ ⟨Nat.zero_le _, Nat.zero_le _⟩ rfl (Nat.le_of_ble_eq_true rfl) _ rfl (fun z7 I8 h => ?_)
    refine x_iconst (pc := 24) dX6_orderAt_24 ?_
    refine x_iadd (pc := 25) dX6_orderAt_25 ?_
    obtain ⟨hv9, h⟩ := h
    obtain ⟨hv10, h⟩ := h
    refine x_iald (pc := 26) dX6_orderAt_26 (LM_a8 hM) hv9 hv10 (by decide) ?_
    refine x_iconst (pc := 27) dX6_orderAt_27 ?_
    refine x_isub (pc := 28) dX6_orderAt_28 ?_
    refine x_Si (μ := m_X6_orderAt) (pc := 29) dX6_orderAt_29 h k_X6_in ml_X6_73 ⟨Nat.le_of_ble_eq_true rfl, Nat.le_of_ble_eq_true rfl⟩ ⟨rfl, rfl⟩ ⟨Nat.zero_le _, Nat.zero_le _⟩ rfl (Nat.le_of_ble_eq_true rfl) _ rfl (fun z11 I12 h => ?_)
    obtain ⟨hr13, h⟩ := h
    obtain ⟨hA14, hB15⟩ := h
    refine x_if_ne (pc := 32) 39 dX6_orderAt_32 (by decide) hr13 (fun hc => ?_) (fun hc => ?_)
    · have h := hA14 hc
      refine x_iconst (pc := 39) dX6_orderAt_39 ?_
      refine x_iconst (pc := 40) dX6_orderAt_40 ?_
      refine x_Vi (μ := m_X6_orderAt) (pc := 41) dX6_orderAt_41 h k_X6_fails ml_X6_174 ⟨Nat.le_of_ble_eq_true rfl, Nat.le_of_ble_eq_true rfl⟩ ⟨rfl, rfl⟩ ⟨Nat.zero_le _, Nat.zero_le _⟩ rfl (LM_ob hM) rfl (Nat.le_of_ble_eq_true rfl) _ rfl (fun z16 I17 h => ?_)
      obtain ⟨hr18, h⟩ := h
      obtain ⟨hA19, hB20⟩ := h
      refine x_if_eq (pc := 44) 51 dX6_orderAt_44 (by decide) hr18 (fun hc => ?_) (fun hc => ?_)
      · have h := hA19 hc
        refine x_aload_n (pc := 51) 0 dX6_orderAt_51 rfl ?_
        refine x_getP (pc := 52) dX6_orderAt_52 FC6 8 (by decide) rfl fl_X6_17 (LM_ob hM) (LM_p8 hM) ?_
        refine x_iload_n (pc := 55) 1 dX6_orderAt_55 rfl ?_
        refine x_Si (μ := m_X6_orderAt) (pc := 56) dX6_orderAt_56 h k_X6_machine ml_X6_158 ⟨Nat.le_of_ble_eq_true rfl, Nat.le_of_ble_eq_true rfl⟩ ⟨rfl, rfl⟩ ⟨Nat.zero_le _, Nat.zero_le _⟩ rfl (Nat.le_of_ble_eq_true rfl) _ rfl (fun z21 I22 h => ?_)
        refine x_iconst (pc := 59) dX6_orderAt_59 ?_
        refine x_iadd (pc := 60) dX6_orderAt_60 ?_
        refine x_iload_n (pc := 61) 2 dX6_orderAt_61 rfl ?_
        refine x_iadd (pc := 62) dX6_orderAt_62 ?_
        obtain ⟨hv23, h⟩ := h
        obtain ⟨hv24, h⟩ := h
        refine x_iald (pc := 63) dX6_orderAt_63 (LM_a8 hM) hv23 hv24 (by decide) ?_
        refine x_Si (μ := m_X6_orderAt) (pc := 64) dX6_orderAt_64 h k_X6_told ml_X6_282 ⟨Nat.le_of_ble_eq_true rfl, Nat.le_of_ble_eq_true rfl⟩ ⟨rfl, rfl⟩ ⟨Nat.zero_le _, Nat.zero_le _⟩ rfl (Nat.le_of_ble_eq_true rfl) _ rfl (fun z25 I26 h => ?_)
        exact x_iret (pc := 67) dX6_orderAt_67 rfl (Nat.le_refl _) (Nat.le_refl _) ⟨_, rfl, rfl, h⟩
      · have h := hB20 hc
        refine x_iconst (pc := 47) dX6_orderAt_47 ?_
        refine x_goto (pc := 48) 67 dX6_orderAt_48 (by decide) ?_
        exact x_iret (pc := 67) dX6_orderAt_67 rfl (Nat.le_refl _) (Nat.le_refl _) ⟨_, rfl, rfl, h⟩
    · have h := hB15 hc
      refine x_iconst (pc := 35) dX6_orderAt_35 ?_
      refine x_goto (pc := 36) 40 dX6_orderAt_36 (by decide) ?_
      refine x_iconst (pc := 40) dX6_orderAt_40 ?_
      refine x_Vi (μ := m_X6_orderAt) (pc := 41) dX6_orderAt_41 h k_X6_fails ml_X6_174 ⟨Nat.le_of_ble_eq_true rfl, Nat.le_of_ble_eq_true rfl⟩ ⟨rfl, rfl⟩ ⟨Nat.zero_le _, Nat.zero_le _⟩ rfl (LM_ob hM) rfl (Nat.le_of_ble_eq_true rfl) _ rfl (fun z27 I28 h => ?_)
      obtain ⟨hr29, h⟩ := h
      obtain ⟨hA30, hB31⟩ := h
      refine x_if_eq (pc := 44) 51 dX6_orderAt_44 (by decide) hr29 (fun hc => ?_) (fun hc => ?_)
      · have h := hA30 hc
        refine x_aload_n (pc := 51) 0 dX6_orderAt_51 rfl ?_
        refine x_getP (pc := 52) dX6_orderAt_52 FC6 8 (by decide) rfl fl_X6_17 (LM_ob hM) (LM_p8 hM) ?_
        refine x_iload_n (pc := 55) 1 dX6_orderAt_55 rfl ?_
        refine x_Si (μ := m_X6_orderAt) (pc := 56) dX6_orderAt_56 h k_X6_machine ml_X6_158 ⟨Nat.le_of_ble_eq_true rfl, Nat.le_of_ble_eq_true rfl⟩ ⟨rfl, rfl⟩ ⟨Nat.zero_le _, Nat.zero_le _⟩ rfl (Nat.le_of_ble_eq_true rfl) _ rfl (fun z32 I33 h => ?_)
        refine x_iconst (pc := 59) dX6_orderAt_59 ?_
        refine x_iadd (pc := 60) dX6_orderAt_60 ?_
        refine x_iload_n (pc := 61) 2 dX6_orderAt_61 rfl ?_
        refine x_iadd (pc := 62) dX6_orderAt_62 ?_
        obtain ⟨hv34, h⟩ := h
        obtain ⟨hv35, h⟩ := h
        refine x_iald (pc := 63) dX6_orderAt_63 (LM_a8 hM) hv34 hv35 (by decide) ?_
        refine x_Si (μ := m_X6_orderAt) (pc := 64) dX6_orderAt_64 h k_X6_told ml_X6_282 ⟨Nat.le_of_ble_eq_true rfl, Nat.le_of_ble_eq_true rfl⟩ ⟨rfl, rfl⟩ ⟨Nat.zero_le _, Nat.zero_le _⟩ rfl (Nat.le_of_ble_eq_true rfl) _ rfl (fun z36 I37 h => ?_)
        exact x_iret (pc := 67) dX6_orderAt_67 rfl (Nat.le_refl _) (Nat.le_refl _) ⟨_, rfl, rfl, h⟩
      · have h := hB31 hc
        refine x_iconst (pc := 47) dX6_orderAt_47 ?_
        refine x_goto (pc := 48) 67 dX6_orderAt_48 (by decide) ?_
        exact x_iret (pc := 67) dX6_orderAt_67 rfl (Nat.le_refl _) (Nat.le_refl _) ⟨_, rfl, rfl, h⟩
set_option maxRecDepth 100000 in
set_option maxHeartbeats 4000000 in
theorem t_X6_start_0 {Γ : GG} {P : MP} {I : MM} {R : Int → MM → Prop} {x1 x2 : Int} (hM : LM Γ P)
    (h : (∀ I1 : MM, I1 = up2 I 1 0 0 → (Cl Γ m_X6_noOperation [vR 1, vI x1, vI x2] P I1 (ri P (fun (z2 : Int) (I3 : MM) => (inR z2) ∧ ((z2 ≠ 0 → R 0 I3) ∧ (z2 = 0 → (Cl Γ m_X6_findStarts [vR 1] P I3 (ri P (fun (z7 : Int) (I8 : MM) => (inR z7) ∧ ((z7 ≠ 0 → (0 ≤ ((6 * x1) + x2)) ∧ (((6 * x1) + x2) < 36) ∧ R (I8 9 (((6 * x1) + x2)).toNat) I8) ∧ (z7 = 0 → R 0 I8)))))))))))) :
    XM Γ m_X6_start 0 0 0 [(0, vR 1), (1, vI x1), (2, vI x2)] [] P I (ri P R) := by
  refine x_aload_n (pc := 0) 0 dX6_start_0 rfl ?_
  refine x_iconst (pc := 1) dX6_start_1 ?_
  refine x_putI (pc := 2) dX6_start_2 FC6 0 (by decide) rfl rfl fl_X6_51 (LM_ob hM) ?_
  refine x_nmI (fun I1 eI1 => ?_)
  have h := h I1 eI1
  refine x_aload_n (pc := 5) 0 dX6_start_5 rfl ?_
  refine x_iload_n (pc := 6) 1 dX6_start_6 rfl ?_
  refine x_iload_n (pc := 7) 2 dX6_start_7 rfl ?_
  refine x_Vi (μ := m_X6_start) (pc := 8) dX6_start_8 h k_X6_noOperation ml_X6_275 ⟨Nat.le_of_ble_eq_true rfl, Nat.le_of_ble_eq_true rfl⟩ ⟨rfl, rfl⟩ ⟨Nat.zero_le _, Nat.zero_le _⟩ rfl (LM_ob hM) rfl (Nat.le_of_ble_eq_true rfl) _ rfl (fun z2 I3 h => ?_)
  obtain ⟨hr4, h⟩ := h
  obtain ⟨hA5, hB6⟩ := h
  refine x_if_ne (pc := 11) 21 dX6_start_11 (by decide) hr4 (fun hc => ?_) (fun hc => ?_)
  · have h := hA5 hc
    refine x_iconst (pc := 21) dX6_start_21 ?_
    refine x_goto (pc := 22) 36 dX6_start_22 (by decide) ?_
    exact x_iret (pc := 36) dX6_start_36 rfl (Nat.le_refl _) (Nat.le_refl _) ⟨_, rfl, rfl, h⟩
  · have h := hB6 hc
    refine x_aload_n (pc := 14) 0 dX6_start_14 rfl ?_
    refine x_Vi (μ := m_X6_start) (pc := 15) dX6_start_15 h k_X6_findStarts ml_X6_217 ⟨Nat.le_of_ble_eq_true rfl, Nat.le_of_ble_eq_true rfl⟩ ⟨rfl, rfl⟩ ⟨Nat.zero_le _, Nat.zero_le _⟩ rfl (LM_ob hM) rfl (Nat.le_of_ble_eq_true rfl) _ rfl (fun z7 I8 h => ?_)
    obtain ⟨hr9, h⟩ := h
    obtain ⟨hA10, hB11⟩ := h
    refine x_if_ne (pc := 18) 25 dX6_start_18 (by decide) hr9 (fun hc => ?_) (fun hc => ?_)
    · have h := hA10 hc
      refine x_aload_n (pc := 25) 0 dX6_start_25 rfl ?_
      refine x_getP (pc := 26) dX6_start_26 FC6 18 (by decide) rfl fl_X6_37 (LM_ob hM) (LM_p18 hM) ?_
      refine x_bipush (pc := 29) dX6_start_29 rfl ?_
      refine x_iload_n (pc := 31) 1 dX6_start_31 rfl ?_
      refine x_imul (pc := 32) dX6_start_32 ?_
      refine x_iload_n (pc := 33) 2 dX6_start_33 rfl ?_
      refine x_iadd (pc := 34) dX6_start_34 ?_
      obtain ⟨hv12, h⟩ := h
      obtain ⟨hv13, h⟩ := h
      refine x_iald (pc := 35) dX6_start_35 (LM_a18 hM) hv12 hv13 (by decide) ?_
      exact x_iret (pc := 36) dX6_start_36 rfl (Nat.le_refl _) (Nat.le_refl _) ⟨_, rfl, rfl, h⟩
    · have h := hB11 hc
      refine x_iconst (pc := 21) dX6_start_21 ?_
      refine x_goto (pc := 22) 36 dX6_start_22 (by decide) ?_
      exact x_iret (pc := 36) dX6_start_36 rfl (Nat.le_refl _) (Nat.le_refl _) ⟨_, rfl, rfl, h⟩
set_option maxRecDepth 100000 in
set_option maxHeartbeats 4000000 in
theorem t_X6_leave_0 {Γ : GG} {P : MP} {I : MM} {R : Int → MM → Prop} {x1 x2 : Int} (hM : LM Γ P)
    (h : (∀ I1 : MM, I1 = up2 I 1 0 0 → (Cl Γ m_X6_noOperation [vR 1, vI x1, vI x2] P I1 (ri P (fun (z2 : Int) (I3 : MM) => (inR z2) ∧ ((z2 ≠ 0 → R 0 I3) ∧ (z2 = 0 → (Cl Γ m_X6_findStarts [vR 1] P I3 (ri P (fun (z7 : Int) (I8 : MM) => (inR z7) ∧ ((z7 ≠ 0 → (Cl Γ m_X6_leaveOf [vR 1, vI ((6 * x1) + x2)] P I8 (ri P (fun (z12 : Int) (I13 : MM) => R z12 I13)))) ∧ (z7 = 0 → R 0 I8)))))))))))) :
    XM Γ m_X6_leave 0 0 0 [(0, vR 1), (1, vI x1), (2, vI x2)] [] P I (ri P R) := by
  refine x_aload_n (pc := 0) 0 dX6_leave_0 rfl ?_
  refine x_iconst (pc := 1) dX6_leave_1 ?_
  refine x_putI (pc := 2) dX6_leave_2 FC6 0 (by decide) rfl rfl fl_X6_51 (LM_ob hM) ?_
  refine x_nmI (fun I1 eI1 => ?_)
  have h := h I1 eI1
  refine x_aload_n (pc := 5) 0 dX6_leave_5 rfl ?_
  refine x_iload_n (pc := 6) 1 dX6_leave_6 rfl ?_
  refine x_iload_n (pc := 7) 2 dX6_leave_7 rfl ?_
  refine x_Vi (μ := m_X6_leave) (pc := 8) dX6_leave_8 h k_X6_noOperation ml_X6_275 ⟨Nat.le_of_ble_eq_true rfl, Nat.le_of_ble_eq_true rfl⟩ ⟨rfl, rfl⟩ ⟨Nat.zero_le _, Nat.zero_le _⟩ rfl (LM_ob hM) rfl (Nat.le_of_ble_eq_true rfl) _ rfl (fun z2 I3 h => ?_)
  obtain ⟨hr4, h⟩ := h
  obtain ⟨hA5, hB6⟩ := h
  refine x_if_ne (pc := 11) 21 dX6_leave_11 (by decide) hr4 (fun hc => ?_) (fun hc => ?_)
  · have h := hA5 hc
    refine x_iconst (pc := 21) dX6_leave_21 ?_
    refine x_goto (pc := 22) 35 dX6_leave_22 (by decide) ?_
    exact x_iret (pc := 35) dX6_leave_35 rfl (Nat.le_refl _) (Nat.le_refl _) ⟨_, rfl, rfl, h⟩
  · have h := hB6 hc
    refine x_aload_n (pc := 14) 0 dX6_leave_14 rfl ?_
    refine x_Vi (μ := m_X6_leave) (pc := 15) dX6_leave_15 h k_X6_findStarts ml_X6_217 ⟨Nat.le_of_ble_eq_true rfl, Nat.le_of_ble_eq_true rfl⟩ ⟨rfl, rfl⟩ ⟨Nat.zero_le _, Nat.zero_le _⟩ rfl (LM_ob hM) rfl (Nat.le_of_ble_eq_true rfl) _ rfl (fun z7 I8 h => ?_)
    obtain ⟨hr9, h⟩ := h
    obtain ⟨hA10, hB11⟩ := h
    refine x_if_ne (pc := 18) 25 dX6_leave_18 (by decide) hr9 (fun hc => ?_) (fun hc => ?_)
    · have h := hA10 hc
      refine x_aload_n (pc := 25) 0 dX6_leave_25 rfl ?_
      refine x_bipush (pc := 26) dX6_leave_26 rfl ?_
      refine x_iload_n (pc := 28) 1 dX6_leave_28 rfl ?_
      refine x_imul (pc := 29) dX6_leave_29 ?_
      refine x_iload_n (pc := 30) 2 dX6_leave_30 rfl ?_
      refine x_iadd (pc := 31) dX6_leave_31 ?_
      refine x_Vi (μ := m_X6_leave) (pc := 32) dX6_leave_32 h k_X6_leaveOf ml_X6_285 ⟨Nat.le_of_ble_eq_true rfl, Nat.le_of_ble_eq_true rfl⟩ ⟨rfl, rfl⟩ ⟨Nat.zero_le _, Nat.zero_le _⟩ rfl (LM_ob hM) rfl (Nat.le_of_ble_eq_true rfl) _ rfl (fun z12 I13 h => ?_)
      exact x_iret (pc := 35) dX6_leave_35 rfl (Nat.le_refl _) (Nat.le_refl _) ⟨_, rfl, rfl, h⟩
    · have h := hB11 hc
      refine x_iconst (pc := 21) dX6_leave_21 ?_
      refine x_goto (pc := 22) 35 dX6_leave_22 (by decide) ?_
      exact x_iret (pc := 35) dX6_leave_35 rfl (Nat.le_refl _) (Nat.le_refl _) ⟨_, rfl, rfl, h⟩
set_option maxRecDepth 100000 in
set_option maxHeartbeats 4000000 in
theorem t_X6_completion_0 {Γ : GG} {P : MP} {I : MM} {R : Int → MM → Prop} {x1 : Int} (hM : LM Γ P)
    (h : (∀ I1 : MM, I1 = up2 I 1 0 0 → (Cl Γ m_X6_noJob [vR 1, vI x1] P I1 (ri P (fun (z2 : Int) (I3 : MM) => (inR z2) ∧ ((z2 ≠ 0 → R 0 I3) ∧ (z2 = 0 → (Cl Γ m_X6_findStarts [vR 1] P I3 (ri P (fun (z7 : Int) (I8 : MM) => (inR z7) ∧ ((z7 ≠ 0 → (Cl Γ m_X6_completionOf [vR 1, vI x1] P I8 (ri P (fun (z12 : Int) (I13 : MM) => R z12 I13)))) ∧ (z7 = 0 → R 0 I8)))))))))))) :
    XM Γ m_X6_completion 0 0 0 [(0, vR 1), (1, vI x1)] [] P I (ri P R) := by
  refine x_aload_n (pc := 0) 0 dX6_completion_0 rfl ?_
  refine x_iconst (pc := 1) dX6_completion_1 ?_
  refine x_putI (pc := 2) dX6_completion_2 FC6 0 (by decide) rfl rfl fl_X6_51 (LM_ob hM) ?_
  refine x_nmI (fun I1 eI1 => ?_)
  have h := h I1 eI1
  refine x_aload_n (pc := 5) 0 dX6_completion_5 rfl ?_
  refine x_iload_n (pc := 6) 1 dX6_completion_6 rfl ?_
  refine x_Vi (μ := m_X6_completion) (pc := 7) dX6_completion_7 h k_X6_noJob ml_X6_269 ⟨Nat.le_of_ble_eq_true rfl, Nat.le_of_ble_eq_true rfl⟩ ⟨rfl, rfl⟩ ⟨Nat.zero_le _, Nat.zero_le _⟩ rfl (LM_ob hM) rfl (Nat.le_of_ble_eq_true rfl) _ rfl (fun z2 I3 h => ?_)
  obtain ⟨hr4, h⟩ := h
  obtain ⟨hA5, hB6⟩ := h
  refine x_if_ne (pc := 10) 20 dX6_completion_10 (by decide) hr4 (fun hc => ?_) (fun hc => ?_)
  · have h := hA5 hc
    refine x_iconst (pc := 20) dX6_completion_20 ?_
    refine x_goto (pc := 21) 29 dX6_completion_21 (by decide) ?_
    exact x_iret (pc := 29) dX6_completion_29 rfl (Nat.le_refl _) (Nat.le_refl _) ⟨_, rfl, rfl, h⟩
  · have h := hB6 hc
    refine x_aload_n (pc := 13) 0 dX6_completion_13 rfl ?_
    refine x_Vi (μ := m_X6_completion) (pc := 14) dX6_completion_14 h k_X6_findStarts ml_X6_217 ⟨Nat.le_of_ble_eq_true rfl, Nat.le_of_ble_eq_true rfl⟩ ⟨rfl, rfl⟩ ⟨Nat.zero_le _, Nat.zero_le _⟩ rfl (LM_ob hM) rfl (Nat.le_of_ble_eq_true rfl) _ rfl (fun z7 I8 h => ?_)
    obtain ⟨hr9, h⟩ := h
    obtain ⟨hA10, hB11⟩ := h
    refine x_if_ne (pc := 17) 24 dX6_completion_17 (by decide) hr9 (fun hc => ?_) (fun hc => ?_)
    · have h := hA10 hc
      refine x_aload_n (pc := 24) 0 dX6_completion_24 rfl ?_
      refine x_iload_n (pc := 25) 1 dX6_completion_25 rfl ?_
      refine x_Vi (μ := m_X6_completion) (pc := 26) dX6_completion_26 h k_X6_completionOf ml_X6_223 ⟨Nat.le_of_ble_eq_true rfl, Nat.le_of_ble_eq_true rfl⟩ ⟨rfl, rfl⟩ ⟨Nat.zero_le _, Nat.zero_le _⟩ rfl (LM_ob hM) rfl (Nat.le_of_ble_eq_true rfl) _ rfl (fun z12 I13 h => ?_)
      exact x_iret (pc := 29) dX6_completion_29 rfl (Nat.le_refl _) (Nat.le_refl _) ⟨_, rfl, rfl, h⟩
    · have h := hB11 hc
      refine x_iconst (pc := 20) dX6_completion_20 ?_
      refine x_goto (pc := 21) 29 dX6_completion_21 (by decide) ?_
      exact x_iret (pc := 29) dX6_completion_29 rfl (Nat.le_refl _) (Nat.le_refl _) ⟨_, rfl, rfl, h⟩
