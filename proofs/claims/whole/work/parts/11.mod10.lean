set_option maxRecDepth 100000 in
set_option maxHeartbeats 4000000 in
theorem t_X6_spanNow_0 {Γ : GG} {P : MP} {I : MM} {R : Int → MM → Prop} (hM : LM Γ P)
    (h : (Cl Γ m_X6_findStarts [vR 1] P I (ri P (fun (z1 : Int) (I2 : MM) => (inR z1) ∧ ((z1 = 0 → R 0 I2) ∧ (¬ z1 = 0 → (Cl Γ m_X6_makespanOf [vR 1] P I2 (ri P (fun (z6 : Int) (I7 : MM) => R z6 I7))))))))) :
    XM Γ m_X6_spanNow 0 0 0 [(0, vR 1)] [] P I (ri P R) := by
  refine x_aload_n (pc := 0) 0 dX6_spanNow_0 rfl ?_
  refine x_Vi (μ := m_X6_spanNow) (pc := 1) dX6_spanNow_1 h k_X6_findStarts ml_X6_217 ⟨Nat.le_of_ble_eq_true rfl, Nat.le_of_ble_eq_true rfl⟩ ⟨rfl, rfl⟩ ⟨Nat.zero_le _, Nat.zero_le _⟩ rfl (LM_ob hM) rfl (Nat.le_of_ble_eq_true rfl) _ rfl (fun z1 I2 h => ?_)
  obtain ⟨hr3, h⟩ := h
  obtain ⟨hA4, hB5⟩ := h
  refine x_if_eq (pc := 4) 14 dX6_spanNow_4 (by decide) hr3 (fun hc => ?_) (fun hc => ?_)
  · have h := hA4 hc
    refine x_iconst (pc := 14) dX6_spanNow_14 ?_
    exact x_iret (pc := 15) dX6_spanNow_15 rfl (Nat.le_refl _) (Nat.le_refl _) ⟨_, rfl, rfl, h⟩
  · have h := hB5 hc
    refine x_aload_n (pc := 7) 0 dX6_spanNow_7 rfl ?_
    refine x_Vi (μ := m_X6_spanNow) (pc := 8) dX6_spanNow_8 h k_X6_makespanOf ml_X6_247 ⟨Nat.le_of_ble_eq_true rfl, Nat.le_of_ble_eq_true rfl⟩ ⟨rfl, rfl⟩ ⟨Nat.zero_le _, Nat.zero_le _⟩ rfl (LM_ob hM) rfl (Nat.le_of_ble_eq_true rfl) _ rfl (fun z6 I7 h => ?_)
    refine x_goto (pc := 11) 15 dX6_spanNow_11 (by decide) ?_
    exact x_iret (pc := 15) dX6_spanNow_15 rfl (Nat.le_refl _) (Nat.le_refl _) ⟨_, rfl, rfl, h⟩
set_option maxRecDepth 100000 in
set_option maxHeartbeats 4000000 in
theorem t_X6_makespan_0 {Γ : GG} {P : MP} {I : MM} {R : Int → MM → Prop} (hM : LM Γ P)
    (h : (∀ I1 : MM, I1 = up2 I 1 0 0 → (Cl Γ m_X6_spanNow [vR 1] P I1 (ri P (fun (z2 : Int) (I3 : MM) => R z2 I3))))) :
    XM Γ m_X6_makespan 0 0 0 [(0, vR 1)] [] P I (ri P R) := by
  refine x_aload_n (pc := 0) 0 dX6_makespan_0 rfl ?_
  refine x_iconst (pc := 1) dX6_makespan_1 ?_
  refine x_putI (pc := 2) dX6_makespan_2 FC6 0 (by decide) rfl rfl fl_X6_51 (LM_ob hM) ?_
  refine x_nmI (fun I1 eI1 => ?_)
  have h := h I1 eI1
  refine x_aload_n (pc := 5) 0 dX6_makespan_5 rfl ?_
  refine x_Vi (μ := m_X6_makespan) (pc := 6) dX6_makespan_6 h k_X6_spanNow ml_X6_288 ⟨Nat.le_of_ble_eq_true rfl, Nat.le_of_ble_eq_true rfl⟩ ⟨rfl, rfl⟩ ⟨Nat.zero_le _, Nat.zero_le _⟩ rfl (LM_ob hM) rfl (Nat.le_of_ble_eq_true rfl) _ rfl (fun z2 I3 h => ?_)
  exact x_iret (pc := 9) dX6_makespan_9 rfl (Nat.le_refl _) (Nat.le_refl _) ⟨_, rfl, rfl, h⟩
set_option maxRecDepth 100000 in
set_option maxHeartbeats 4000000 in
theorem t_X6_jobCost_0 {Γ : GG} {P : MP} {I : MM} {R : Int → MM → Prop} {x1 : Int} (hM : LM Γ P)
    (h : (∀ I1 : MM, I1 = up2 I 1 0 0 → (Cl Γ m_X6_noJob [vR 1, vI x1] P I1 (ri P (fun (z2 : Int) (I3 : MM) => (inR z2) ∧ ((z2 ≠ 0 → R 0 I3) ∧ (z2 = 0 → (Cl Γ m_X6_findStarts [vR 1] P I3 (ri P (fun (z7 : Int) (I8 : MM) => (inR z7) ∧ ((z7 ≠ 0 → (Cl Γ m_X6_costOf [vR 1, vI x1] P I8 (ri P (fun (z12 : Int) (I13 : MM) => R z12 I13)))) ∧ (z7 = 0 → R 0 I8)))))))))))) :
    XM Γ m_X6_jobCost 0 0 0 [(0, vR 1), (1, vI x1)] [] P I (ri P R) := by
  refine x_aload_n (pc := 0) 0 dX6_jobCost_0 rfl ?_
  refine x_iconst (pc := 1) dX6_jobCost_1 ?_
  refine x_putI (pc := 2) dX6_jobCost_2 FC6 0 (by decide) rfl rfl fl_X6_51 (LM_ob hM) ?_
  refine x_nmI (fun I1 eI1 => ?_)
  have h := h I1 eI1
  refine x_aload_n (pc := 5) 0 dX6_jobCost_5 rfl ?_
  refine x_iload_n (pc := 6) 1 dX6_jobCost_6 rfl ?_
  refine x_Vi (μ := m_X6_jobCost) (pc := 7) dX6_jobCost_7 h k_X6_noJob ml_X6_269 ⟨Nat.le_of_ble_eq_true rfl, Nat.le_of_ble_eq_true rfl⟩ ⟨rfl, rfl⟩ ⟨Nat.zero_le _, Nat.zero_le _⟩ rfl (LM_ob hM) rfl (Nat.le_of_ble_eq_true rfl) _ rfl (fun z2 I3 h => ?_)
  obtain ⟨hr4, h⟩ := h
  obtain ⟨hA5, hB6⟩ := h
  refine x_if_ne (pc := 10) 20 dX6_jobCost_10 (by decide) hr4 (fun hc => ?_) (fun hc => ?_)
  · have h := hA5 hc
    refine x_iconst (pc := 20) dX6_jobCost_20 ?_
    refine x_goto (pc := 21) 29 dX6_jobCost_21 (by decide) ?_
    exact x_iret (pc := 29) dX6_jobCost_29 rfl (Nat.le_refl _) (Nat.le_refl _) ⟨_, rfl, rfl, h⟩
  · have h := hB6 hc
    refine x_aload_n (pc := 13) 0 dX6_jobCost_13 rfl ?_
    refine x_Vi (μ := m_X6_jobCost) (pc := 14) dX6_jobCost_14 h k_X6_findStarts ml_X6_217 ⟨Nat.le_of_ble_eq_true rfl, Nat.le_of_ble_eq_true rfl⟩ ⟨rfl, rfl⟩ ⟨Nat.zero_le _, Nat.zero_le _⟩ rfl (LM_ob hM) rfl (Nat.le_of_ble_eq_true rfl) _ rfl (fun z7 I8 h => ?_)
    obtain ⟨hr9, h⟩ := h
    obtain ⟨hA10, hB11⟩ := h
    refine x_if_ne (pc := 17) 24 dX6_jobCost_17 (by decide) hr9 (fun hc => ?_) (fun hc => ?_)
    · have h := hA10 hc
      refine x_aload_n (pc := 24) 0 dX6_jobCost_24 rfl ?_
      refine x_iload_n (pc := 25) 1 dX6_jobCost_25 rfl ?_
      refine x_Vi (μ := m_X6_jobCost) (pc := 26) dX6_jobCost_26 h k_X6_costOf ml_X6_238 ⟨Nat.le_of_ble_eq_true rfl, Nat.le_of_ble_eq_true rfl⟩ ⟨rfl, rfl⟩ ⟨Nat.zero_le _, Nat.zero_le _⟩ rfl (LM_ob hM) rfl (Nat.le_of_ble_eq_true rfl) _ rfl (fun z12 I13 h => ?_)
      exact x_iret (pc := 29) dX6_jobCost_29 rfl (Nat.le_refl _) (Nat.le_refl _) ⟨_, rfl, rfl, h⟩
    · have h := hB11 hc
      refine x_iconst (pc := 20) dX6_jobCost_20 ?_
      refine x_goto (pc := 21) 29 dX6_jobCost_21 (by decide) ?_
      exact x_iret (pc := 29) dX6_jobCost_29 rfl (Nat.le_refl _) (Nat.le_refl _) ⟨_, rfl, rfl, h⟩
set_option maxRecDepth 100000 in
set_option maxHeartbeats 4000000 in
theorem t_X6_planCost_0 {Γ : GG} {P : MP} {I : MM} {R : Int → MM → Prop} (hM : LM Γ P)
    (h : (∀ I1 : MM, I1 = up2 I 1 0 0 → (Cl Γ m_X6_findStarts [vR 1] P I1 (ri P (fun (z2 : Int) (I3 : MM) => (inR z2) ∧ ((z2 = 0 → R 0 I3) ∧ (¬ z2 = 0 → (Cl Γ m_X6_costOfPlan [vR 1] P I3 (ri P (fun (z7 : Int) (I8 : MM) => R z7 I8)))))))))) :
    XM Γ m_X6_planCost 0 0 0 [(0, vR 1)] [] P I (ri P R) := by
  refine x_aload_n (pc := 0) 0 dX6_planCost_0 rfl ?_
  refine x_iconst (pc := 1) dX6_planCost_1 ?_
  refine x_putI (pc := 2) dX6_planCost_2 FC6 0 (by decide) rfl rfl fl_X6_51 (LM_ob hM) ?_
  refine x_nmI (fun I1 eI1 => ?_)
  have h := h I1 eI1
  refine x_aload_n (pc := 5) 0 dX6_planCost_5 rfl ?_
  refine x_Vi (μ := m_X6_planCost) (pc := 6) dX6_planCost_6 h k_X6_findStarts ml_X6_217 ⟨Nat.le_of_ble_eq_true rfl, Nat.le_of_ble_eq_true rfl⟩ ⟨rfl, rfl⟩ ⟨Nat.zero_le _, Nat.zero_le _⟩ rfl (LM_ob hM) rfl (Nat.le_of_ble_eq_true rfl) _ rfl (fun z2 I3 h => ?_)
  obtain ⟨hr4, h⟩ := h
  obtain ⟨hA5, hB6⟩ := h
  refine x_if_eq (pc := 9) 19 dX6_planCost_9 (by decide) hr4 (fun hc => ?_) (fun hc => ?_)
  · have h := hA5 hc
    refine x_iconst (pc := 19) dX6_planCost_19 ?_
    exact x_iret (pc := 20) dX6_planCost_20 rfl (Nat.le_refl _) (Nat.le_refl _) ⟨_, rfl, rfl, h⟩
  · have h := hB6 hc
    refine x_aload_n (pc := 12) 0 dX6_planCost_12 rfl ?_
    refine x_Vi (μ := m_X6_planCost) (pc := 13) dX6_planCost_13 h k_X6_costOfPlan ml_X6_250 ⟨Nat.le_of_ble_eq_true rfl, Nat.le_of_ble_eq_true rfl⟩ ⟨rfl, rfl⟩ ⟨Nat.zero_le _, Nat.zero_le _⟩ rfl (LM_ob hM) rfl (Nat.le_of_ble_eq_true rfl) _ rfl (fun z7 I8 h => ?_)
    refine x_goto (pc := 16) 20 dX6_planCost_16 (by decide) ?_
    exact x_iret (pc := 20) dX6_planCost_20 rfl (Nat.le_refl _) (Nat.le_refl _) ⟨_, rfl, rfl, h⟩
set_option maxRecDepth 100000 in
set_option maxHeartbeats 4000000 in
theorem t_X6_blockedTime_0 {Γ : GG} {P : MP} {I : MM} {R : Int → MM → Prop} {x1 : Int} (hM : LM Γ P)
    (h : (∀ I1 : MM, I1 = up2 I 1 0 0 → (Cl Γ m_X6_noMachine [vR 1, vI x1] P I1 (ri P (fun (z2 : Int) (I3 : MM) => (inR z2) ∧ ((z2 ≠ 0 → R 0 I3) ∧ (z2 = 0 → (Cl Γ m_X6_findStarts [vR 1] P I3 (ri P (fun (z7 : Int) (I8 : MM) => (inR z7) ∧ ((z7 ≠ 0 → XM Γ m_X6_blockedTime 0 0 26 [(0, vR 1), (1, vI x1), (2, vI 0), (3, vI 0)] [] P I8 (ri P R)) ∧ (z7 = 0 → R 0 I8)))))))))))) :
    XM Γ m_X6_blockedTime 0 0 0 [(0, vR 1), (1, vI x1)] [] P I (ri P R) := by
  refine x_aload_n (pc := 0) 0 dX6_blockedTime_0 rfl ?_
  refine x_iconst (pc := 1) dX6_blockedTime_1 ?_
  refine x_putI (pc := 2) dX6_blockedTime_2 FC6 0 (by decide) rfl rfl fl_X6_51 (LM_ob hM) ?_
  refine x_nmI (fun I1 eI1 => ?_)
  have h := h I1 eI1
  refine x_aload_n (pc := 5) 0 dX6_blockedTime_5 rfl ?_
  refine x_iload_n (pc := 6) 1 dX6_blockedTime_6 rfl ?_
  refine x_Vi (μ := m_X6_blockedTime) (pc := 7) dX6_blockedTime_7 h k_X6_noMachine ml_X6_272 ⟨Nat.le_of_ble_eq_true rfl, Nat.le_of_ble_eq_true rfl⟩ ⟨rfl, rfl⟩ ⟨Nat.zero_le _, Nat.zero_le _⟩ rfl (LM_ob hM) rfl (Nat.le_of_ble_eq_true rfl) _ rfl (fun z2 I3 h => ?_)
  obtain ⟨hr4, h⟩ := h
  obtain ⟨hA5, hB6⟩ := h
  refine x_if_ne (pc := 10) 20 dX6_blockedTime_10 (by decide) hr4 (fun hc => ?_) (fun hc => ?_)
  · have h := hA5 hc
    refine x_iconst (pc := 20) dX6_blockedTime_20 ?_
    exact x_iret (pc := 21) dX6_blockedTime_21 rfl (Nat.le_refl _) (Nat.le_refl _) ⟨_, rfl, rfl, h⟩
  · have h := hB6 hc
    refine x_aload_n (pc := 13) 0 dX6_blockedTime_13 rfl ?_
    refine x_Vi (μ := m_X6_blockedTime) (pc := 14) dX6_blockedTime_14 h k_X6_findStarts ml_X6_217 ⟨Nat.le_of_ble_eq_true rfl, Nat.le_of_ble_eq_true rfl⟩ ⟨rfl, rfl⟩ ⟨Nat.zero_le _, Nat.zero_le _⟩ rfl (LM_ob hM) rfl (Nat.le_of_ble_eq_true rfl) _ rfl (fun z7 I8 h => ?_)
    obtain ⟨hr9, h⟩ := h
    obtain ⟨hA10, hB11⟩ := h
    refine x_if_ne (pc := 17) 22 dX6_blockedTime_17 (by decide) hr9 (fun hc => ?_) (fun hc => ?_)
    · have h := hA10 hc
      refine x_iconst (pc := 22) dX6_blockedTime_22 ?_
      refine x_istore_n (pc := 23) (al' := [(0, vR 1), (1, vI x1), (2, vI 0)]) dX6_blockedTime_23 rfl rfl (Nat.le_of_ble_eq_true rfl) ?_
      refine x_iconst (pc := 24) dX6_blockedTime_24 ?_
      refine x_istore_n (pc := 25) (al' := [(0, vR 1), (1, vI x1), (2, vI 0), (3, vI 0)]) dX6_blockedTime_25 rfl rfl (Nat.le_of_ble_eq_true rfl) ?_
      exact x_sub [0, 1, 2, 3] rfl h
    · have h := hB11 hc
      refine x_iconst (pc := 20) dX6_blockedTime_20 ?_
      exact x_iret (pc := 21) dX6_blockedTime_21 rfl (Nat.le_refl _) (Nat.le_refl _) ⟨_, rfl, rfl, h⟩
set_option maxRecDepth 100000 in
set_option maxHeartbeats 4000000 in
theorem t_X6_blockedTime_26 {Γ : GG} {P : MP} {I : MM} {R : Int → MM → Prop} {x1 x2 x3 : Int} (hM : LM Γ P)
    (h : (Cl Γ m_X6_machine [vI x1] P I (ri P (fun (z1 : Int) (I2 : MM) => (0 ≤ (z1 + 2)) ∧ ((z1 + 2) < 1655) ∧ (inR x3) ∧ (inR (I2 3 ((z1 + 2)).toNat)) ∧ (((I2 3 ((z1 + 2)).toNat) ≤ x3 → R x2 I2) ∧ (¬ (I2 3 ((z1 + 2)).toNat) ≤ x3 → (Cl Γ m_X6_machine [vI x1] P I2 (ri P (fun (z9 : Int) (I10 : MM) => (0 ≤ ((z9 + 3) + x3)) ∧ (((z9 + 3) + x3) < 1655) ∧ (∀ u13 : Int, u13 = (I10 3 (((z9 + 3) + x3)).toNat) → (Cl Γ m_X6_leaveOf [vR 1, vI u13] P I10 (ri P (fun (z14 : Int) (I15 : MM) => (0 ≤ u13) ∧ (u13 < 36) ∧ (Cl Γ m_X6_durationOf [vR 1, vI u13] P I15 (ri P (fun (z18 : Int) (I19 : MM) => (∀ u20 : Int, u20 = (x2 + ((z14 - (I15 9 (u13).toNat)) - z18)) → XM Γ m_X6_blockedTime 0 0 26 [(0, vR 1), (1, vI x1), (2, vI u20), (3, vI (x3 + 1))] [] P I19 (ri P R)))))))))))))))))) :
    XM Γ m_X6_blockedTime 0 0 26 [(0, vR 1), (1, vI x1), (2, vI x2), (3, vI x3)] [] P I (ri P R) := by
  refine x_iload_n (pc := 26) 3 dX6_blockedTime_26 rfl ?_
  refine x_aload_n (pc := 27) 0 dX6_blockedTime_27 rfl ?_
  refine x_getP (pc := 28) dX6_blockedTime_28 FC6 8 (by decide) rfl fl_X6_17 (LM_ob hM) (LM_p8 hM) ?_
  refine x_iload_n (pc := 31) 1 dX6_blockedTime_31 rfl ?_
  refine x_Si (μ := m_X6_blockedTime) (pc := 32) dX6_blockedTime_32 h k_X6_machine ml_X6_158 ⟨Nat.le_of_ble_eq_true rfl, Nat.le_of_ble_eq_true rfl⟩ ⟨rfl, rfl⟩ ⟨Nat.zero_le _, Nat.zero_le _⟩ rfl (Nat.le_of_ble_eq_true rfl) _ rfl (fun z1 I2 h => ?_)
  refine x_iconst (pc := 35) dX6_blockedTime_35 ?_
  refine x_iadd (pc := 36) dX6_blockedTime_36 ?_
  obtain ⟨hv3, h⟩ := h
  obtain ⟨hv4, h⟩ := h
  refine x_iald (pc := 37) dX6_blockedTime_37 (LM_a8 hM) hv3 hv4 (by decide) ?_
  obtain ⟨hr5, h⟩ := h
  obtain ⟨hr6, h⟩ := h
  obtain ⟨hA7, hB8⟩ := h
  refine x_icmp_ge (pc := 38) 86 dX6_blockedTime_38 (by decide) hr5 hr6 (fun hc => ?_) (fun hc => ?_)
  · have h := hA7 hc
    refine x_iload_n (pc := 86) 2 dX6_blockedTime_86 rfl ?_
    exact x_iret (pc := 87) dX6_blockedTime_87 rfl (Nat.le_refl _) (Nat.le_refl _) ⟨_, rfl, rfl, h⟩
  · have h := hB8 hc
    refine x_aload_n (pc := 41) 0 dX6_blockedTime_41 rfl ?_
    refine x_getP (pc := 42) dX6_blockedTime_42 FC6 8 (by decide) rfl fl_X6_17 (LM_ob hM) (LM_p8 hM) ?_
    refine x_iload_n (pc := 45) 1 dX6_blockedTime_45 rfl ?_
    refine x_Si (μ := m_X6_blockedTime) (pc := 46) dX6_blockedTime_46 h k_X6_machine ml_X6_158 ⟨Nat.le_of_ble_eq_true rfl, Nat.le_of_ble_eq_true rfl⟩ ⟨rfl, rfl⟩ ⟨Nat.zero_le _, Nat.zero_le _⟩ rfl (Nat.le_of_ble_eq_true rfl) _ rfl (fun z9 I10 h => ?_)
    refine x_iconst (pc := 49) dX6_blockedTime_49 ?_
    refine x_iadd (pc := 50) dX6_blockedTime_50 ?_
    refine x_iload_n (pc := 51) 3 dX6_blockedTime_51 rfl ?_
    refine x_iadd (pc := 52) dX6_blockedTime_52 ?_
    obtain ⟨hv11, h⟩ := h
    obtain ⟨hv12, h⟩ := h
    refine x_iald (pc := 53) dX6_blockedTime_53 (LM_a8 hM) hv11 hv12 (by decide) ?_
    refine x_nmT (fun u13 eu13 => ?_)
    have h := h u13 eu13
    refine x_istore (pc := 54) (al' := [(0, vR 1), (1, vI x1), (2, vI x2), (3, vI x3), (4, vI u13)]) dX6_blockedTime_54 rfl rfl (Nat.le_of_ble_eq_true rfl) ?_
    refine x_iload_n (pc := 56) 2 dX6_blockedTime_56 rfl ?_
    refine x_aload_n (pc := 57) 0 dX6_blockedTime_57 rfl ?_
    refine x_iload (pc := 58) 4 dX6_blockedTime_58 rfl ?_
    refine x_Vi (μ := m_X6_blockedTime) (pc := 60) dX6_blockedTime_60 h k_X6_leaveOf ml_X6_285 ⟨Nat.le_of_ble_eq_true rfl, Nat.le_of_ble_eq_true rfl⟩ ⟨rfl, rfl⟩ ⟨Nat.zero_le _, Nat.zero_le _⟩ rfl (LM_ob hM) rfl (Nat.le_of_ble_eq_true rfl) _ rfl (fun z14 I15 h => ?_)
    refine x_aload_n (pc := 63) 0 dX6_blockedTime_63 rfl ?_
    refine x_getP (pc := 64) dX6_blockedTime_64 FC6 18 (by decide) rfl fl_X6_37 (LM_ob hM) (LM_p18 hM) ?_
    refine x_iload (pc := 67) 4 dX6_blockedTime_67 rfl ?_
    obtain ⟨hv16, h⟩ := h
    obtain ⟨hv17, h⟩ := h
    refine x_iald (pc := 69) dX6_blockedTime_69 (LM_a18 hM) hv16 hv17 (by decide) ?_
    refine x_isub (pc := 70) dX6_blockedTime_70 ?_
    refine x_aload_n (pc := 71) 0 dX6_blockedTime_71 rfl ?_
    refine x_iload (pc := 72) 4 dX6_blockedTime_72 rfl ?_
    refine x_Vi (μ := m_X6_blockedTime) (pc := 74) dX6_blockedTime_74 h k_X6_durationOf ml_X6_202 ⟨Nat.le_of_ble_eq_true rfl, Nat.le_of_ble_eq_true rfl⟩ ⟨rfl, rfl⟩ ⟨Nat.zero_le _, Nat.zero_le _⟩ rfl (LM_ob hM) rfl (Nat.le_of_ble_eq_true rfl) _ rfl (fun z18 I19 h => ?_)
    refine x_isub (pc := 77) dX6_blockedTime_77 ?_
    refine x_iadd (pc := 78) dX6_blockedTime_78 ?_
    refine x_nmT (fun u20 eu20 => ?_)
    have h := h u20 eu20
    refine x_istore_n (pc := 79) (al' := [(0, vR 1), (1, vI x1), (2, vI u20), (3, vI x3), (4, vI u13)]) dX6_blockedTime_79 rfl rfl (Nat.le_of_ble_eq_true rfl) ?_
    refine x_iinc (pc := 80) (al' := [(0, vR 1), (1, vI x1), (2, vI u20), (3, vI (x3 + 1)), (4, vI u13)]) 3 dX6_blockedTime_80 rfl rfl rfl (Nat.le_of_ble_eq_true rfl) ?_
    refine x_goto (pc := 83) 26 dX6_blockedTime_83 (by decide) ?_
    exact x_sub [0, 1, 2, 3] rfl h
set_option maxRecDepth 100000 in
set_option maxHeartbeats 4000000 in
theorem t_X6_criticalLength_0 {Γ : GG} {P : MP} {I : MM} {R : Int → MM → Prop} (hM : LM Γ P)
    (h : (∀ I1 : MM, I1 = up2 I 1 0 0 → (Cl Γ m_X6_findPath [vR 1] P I1 (rv P (fun (I2 : MM) => R (I2 1 24) I2))))) :
    XM Γ m_X6_criticalLength 0 0 0 [(0, vR 1)] [] P I (ri P R) := by
  refine x_aload_n (pc := 0) 0 dX6_criticalLength_0 rfl ?_
  refine x_iconst (pc := 1) dX6_criticalLength_1 ?_
  refine x_putI (pc := 2) dX6_criticalLength_2 FC6 0 (by decide) rfl rfl fl_X6_51 (LM_ob hM) ?_
  refine x_nmI (fun I1 eI1 => ?_)
  have h := h I1 eI1
  refine x_aload_n (pc := 5) 0 dX6_criticalLength_5 rfl ?_
  refine x_Vv (μ := m_X6_criticalLength) (pc := 6) dX6_criticalLength_6 h k_X6_findPath ml_X6_291 ⟨Nat.le_of_ble_eq_true rfl, Nat.le_of_ble_eq_true rfl⟩ ⟨rfl, rfl⟩ ⟨Nat.zero_le _, Nat.zero_le _⟩ rfl (LM_ob hM) rfl (Nat.le_of_ble_eq_true rfl) _ rfl (fun I2 h => ?_)
  refine x_aload_n (pc := 9) 0 dX6_criticalLength_9 rfl ?_
  refine x_getI (pc := 10) dX6_criticalLength_10 FC6 24 (by decide) rfl fl_X6_263 (LM_ob hM) ?_
  exact x_iret (pc := 13) dX6_criticalLength_13 rfl (Nat.le_refl _) (Nat.le_refl _) ⟨_, rfl, rfl, h⟩
set_option maxRecDepth 100000 in
set_option maxHeartbeats 4000000 in
theorem t_X6_critical_0 {Γ : GG} {P : MP} {I : MM} {R : Int → MM → Prop} {x1 : Int} (hM : LM Γ P)
    (h : (∀ I1 : MM, I1 = up2 I 1 0 0 → (Cl Γ m_X6_findPath [vR 1] P I1 (rv P (fun (I2 : MM) => (Cl Γ m_X6_in [vI x1, vI 0, vI ((I2 1 24) - 1)] P I2 (ri P (fun (z3 : Int) (I4 : MM) => (inR z3) ∧ ((z3 ≠ 0 → (Cl Γ m_X6_fails [vR 1, vI 0, vI 1] P I4 (ri P (fun (z8 : Int) (I9 : MM) => (inR z8) ∧ ((z8 = 0 → (0 ≤ x1) ∧ (x1 < 36) ∧ (Cl Γ m_X6_told [vI (I9 12 (x1).toNat)] P I9 (ri P (fun (z15 : Int) (I16 : MM) => R z15 I16)))) ∧ (¬ z8 = 0 → R 0 I9)))))) ∧ (z3 = 0 → (Cl Γ m_X6_fails [vR 1, vI 1, vI 1] P I4 (ri P (fun (z17 : Int) (I18 : MM) => (inR z17) ∧ ((z17 = 0 → (0 ≤ x1) ∧ (x1 < 36) ∧ (Cl Γ m_X6_told [vI (I18 12 (x1).toNat)] P I18 (ri P (fun (z24 : Int) (I25 : MM) => R z24 I25)))) ∧ (¬ z17 = 0 → R 0 I18))))))))))))))) :
    XM Γ m_X6_critical 0 0 0 [(0, vR 1), (1, vI x1)] [] P I (ri P R) := by
  refine x_aload_n (pc := 0) 0 dX6_critical_0 rfl ?_
  refine x_iconst (pc := 1) dX6_critical_1 ?_
  refine x_putI (pc := 2) dX6_critical_2 FC6 0 (by decide) rfl rfl fl_X6_51 (LM_ob hM) ?_
  refine x_nmI (fun I1 eI1 => ?_)
  have h := h I1 eI1
  refine x_aload_n (pc := 5) 0 dX6_critical_5 rfl ?_
  refine x_Vv (μ := m_X6_critical) (pc := 6) dX6_critical_6 h k_X6_findPath ml_X6_291 ⟨Nat.le_of_ble_eq_true rfl, Nat.le_of_ble_eq_true rfl⟩ ⟨rfl, rfl⟩ ⟨Nat.zero_le _, Nat.zero_le _⟩ rfl (LM_ob hM) rfl (Nat.le_of_ble_eq_true rfl) _ rfl (fun I2 h => ?_)
  refine x_aload_n (pc := 9) 0 dX6_critical_9 rfl ?_
  refine x_iload_n (pc := 10) 1 dX6_critical_10 rfl ?_
  refine x_iconst (pc := 11) dX6_critical_11 ?_
  refine x_aload_n (pc := 12) 0 dX6_critical_12 rfl ?_
  refine x_getI (pc := 13) dX6_critical_13 FC6 24 (by decide) rfl fl_X6_263 (LM_ob hM) ?_
  refine x_iconst (pc := 16) dX6_critical_16 ?_
  refine x_isub (pc := 17) dX6_critical_17 ?_
  refine x_Si (μ := m_X6_critical) (pc := 18) dX6_critical_18 h k_X6_in ml_X6_73 ⟨Nat.le_of_ble_eq_true rfl, Nat.le_of_ble_eq_true rfl⟩ ⟨rfl, rfl⟩ ⟨Nat.zero_le _, Nat.zero_le _⟩ rfl (Nat.le_of_ble_eq_true rfl) _ rfl (fun z3 I4 h => ?_)
  obtain ⟨hr5, h⟩ := h
  obtain ⟨hA6, hB7⟩ := h
  refine x_if_ne (pc := 21) 28 dX6_critical_21 (by decide) hr5 (fun hc => ?_) (fun hc => ?_)
  · have h := hA6 hc
    refine x_iconst (pc := 28) dX6_critical_28 ?_
    refine x_iconst (pc := 29) dX6_critical_29 ?_
    refine x_Vi (μ := m_X6_critical) (pc := 30) dX6_critical_30 h k_X6_fails ml_X6_174 ⟨Nat.le_of_ble_eq_true rfl, Nat.le_of_ble_eq_true rfl⟩ ⟨rfl, rfl⟩ ⟨Nat.zero_le _, Nat.zero_le _⟩ rfl (LM_ob hM) rfl (Nat.le_of_ble_eq_true rfl) _ rfl (fun z8 I9 h => ?_)
    obtain ⟨hr10, h⟩ := h
    obtain ⟨hA11, hB12⟩ := h
    refine x_if_eq (pc := 33) 40 dX6_critical_33 (by decide) hr10 (fun hc => ?_) (fun hc => ?_)
    · have h := hA11 hc
      refine x_aload_n (pc := 40) 0 dX6_critical_40 rfl ?_
      refine x_getP (pc := 41) dX6_critical_41 FC6 23 (by decide) rfl fl_X6_48 (LM_ob hM) (LM_p23 hM) ?_
      refine x_iload_n (pc := 44) 1 dX6_critical_44 rfl ?_
      obtain ⟨hv13, h⟩ := h
      obtain ⟨hv14, h⟩ := h
      refine x_iald (pc := 45) dX6_critical_45 (LM_a23 hM) hv13 hv14 (by decide) ?_
      refine x_Si (μ := m_X6_critical) (pc := 46) dX6_critical_46 h k_X6_told ml_X6_282 ⟨Nat.le_of_ble_eq_true rfl, Nat.le_of_ble_eq_true rfl⟩ ⟨rfl, rfl⟩ ⟨Nat.zero_le _, Nat.zero_le _⟩ rfl (Nat.le_of_ble_eq_true rfl) _ rfl (fun z15 I16 h => ?_)
      exact x_iret (pc := 49) dX6_critical_49 rfl (Nat.le_refl _) (Nat.le_refl _) ⟨_, rfl, rfl, h⟩
    · have h := hB12 hc
      refine x_iconst (pc := 36) dX6_critical_36 ?_
      refine x_goto (pc := 37) 49 dX6_critical_37 (by decide) ?_
      exact x_iret (pc := 49) dX6_critical_49 rfl (Nat.le_refl _) (Nat.le_refl _) ⟨_, rfl, rfl, h⟩
  · have h := hB7 hc
    refine x_iconst (pc := 24) dX6_critical_24 ?_
    refine x_goto (pc := 25) 29 dX6_critical_25 (by decide) ?_
    refine x_iconst (pc := 29) dX6_critical_29 ?_
    refine x_Vi (μ := m_X6_critical) (pc := 30) dX6_critical_30 h k_X6_fails ml_X6_174 ⟨Nat.le_of_ble_eq_true rfl, Nat.le_of_ble_eq_true rfl⟩ ⟨rfl, rfl⟩ ⟨Nat.zero_le _, Nat.zero_le _⟩ rfl (LM_ob hM) rfl (Nat.le_of_ble_eq_true rfl) _ rfl (fun z17 I18 h => ?_)
    obtain ⟨hr19, h⟩ := h
    obtain ⟨hA20, hB21⟩ := h
    refine x_if_eq (pc := 33) 40 dX6_critical_33 (by decide) hr19 (fun hc => ?_) (fun hc => ?_)
    · have h := hA20 hc
      refine x_aload_n (pc := 40) 0 dX6_critical_40 rfl ?_
      refine x_getP (pc := 41) dX6_critical_41 FC6 23 (by decide) rfl fl_X6_48 (LM_ob hM) (LM_p23 hM) ?_
      refine x_iload_n (pc := 44) 1 dX6_critical_44 rfl ?_
      obtain ⟨hv22, h⟩ := h
      obtain ⟨hv23, h⟩ := h
      refine x_iald (pc := 45) dX6_critical_45 (LM_a23 hM) hv22 hv23 (by decide) ?_
      refine x_Si (μ := m_X6_critical) (pc := 46) dX6_critical_46 h k_X6_told ml_X6_282 ⟨Nat.le_of_ble_eq_true rfl, Nat.le_of_ble_eq_true rfl⟩ ⟨rfl, rfl⟩ ⟨Nat.zero_le _, Nat.zero_le _⟩ rfl (Nat.le_of_ble_eq_true rfl) _ rfl (fun z24 I25 h => ?_)
      exact x_iret (pc := 49) dX6_critical_49 rfl (Nat.le_refl _) (Nat.le_refl _) ⟨_, rfl, rfl, h⟩
    · have h := hB21 hc
      refine x_iconst (pc := 36) dX6_critical_36 ?_
      refine x_goto (pc := 37) 49 dX6_critical_37 (by decide) ?_
      exact x_iret (pc := 49) dX6_critical_49 rfl (Nat.le_refl _) (Nat.le_refl _) ⟨_, rfl, rfl, h⟩
set_option maxRecDepth 100000 in
set_option maxHeartbeats 4000000 in
theorem t_X6_blockCount_0 {Γ : GG} {P : MP} {I : MM} {R : Int → MM → Prop} (hM : LM Γ P)
    (h : (∀ I1 : MM, I1 = up2 I 1 0 0 → (Cl Γ m_X6_findPath [vR 1] P I1 (rv P (fun (I2 : MM) => XM Γ m_X6_blockCount 0 0 13 [(0, vR 1), (1, vI 0), (2, vI 0)] [] P I2 (ri P R)))))) :
    XM Γ m_X6_blockCount 0 0 0 [(0, vR 1)] [] P I (ri P R) := by
  refine x_aload_n (pc := 0) 0 dX6_blockCount_0 rfl ?_
  refine x_iconst (pc := 1) dX6_blockCount_1 ?_
  refine x_putI (pc := 2) dX6_blockCount_2 FC6 0 (by decide) rfl rfl fl_X6_51 (LM_ob hM) ?_
  refine x_nmI (fun I1 eI1 => ?_)
  have h := h I1 eI1
  refine x_aload_n (pc := 5) 0 dX6_blockCount_5 rfl ?_
  refine x_Vv (μ := m_X6_blockCount) (pc := 6) dX6_blockCount_6 h k_X6_findPath ml_X6_291 ⟨Nat.le_of_ble_eq_true rfl, Nat.le_of_ble_eq_true rfl⟩ ⟨rfl, rfl⟩ ⟨Nat.zero_le _, Nat.zero_le _⟩ rfl (LM_ob hM) rfl (Nat.le_of_ble_eq_true rfl) _ rfl (fun I2 h => ?_)
  refine x_iconst (pc := 9) dX6_blockCount_9 ?_
  refine x_istore_n (pc := 10) (al' := [(0, vR 1), (1, vI 0)]) dX6_blockCount_10 rfl rfl (Nat.le_of_ble_eq_true rfl) ?_
  refine x_iconst (pc := 11) dX6_blockCount_11 ?_
  refine x_istore_n (pc := 12) (al' := [(0, vR 1), (1, vI 0), (2, vI 0)]) dX6_blockCount_12 rfl rfl (Nat.le_of_ble_eq_true rfl) ?_
  exact x_sub [0, 1, 2] rfl h
set_option maxRecDepth 100000 in
set_option maxHeartbeats 4000000 in
theorem t_X6_blockCount_13 {Γ : GG} {P : MP} {I : MM} {R : Int → MM → Prop} {x1 x2 : Int} (hM : LM Γ P)
    (h : (inR x2) ∧ (inR (I 1 24)) ∧ (((I 1 24) ≤ x2 → R x1 I) ∧ (¬ (I 1 24) ≤ x2 → ((x2 = 0 → (∀ u7 : Int, u7 = (x1 + 1) → XM Γ m_X6_blockCount 0 0 13 [(0, vR 1), (1, vI u7), (2, vI (x2 + 1))] [] P I (ri P R))) ∧ (¬ x2 = 0 → (0 ≤ x2) ∧ (x2 < 36) ∧ (Cl Γ m_X6_machineOf [vR 1, vI (I 12 (x2).toNat)] P I (ri P (fun (z10 : Int) (I11 : MM) => (0 ≤ (x2 - 1)) ∧ ((x2 - 1) < 36) ∧ (Cl Γ m_X6_machineOf [vR 1, vI (I11 12 ((x2 - 1)).toNat)] P I11 (ri P (fun (z14 : Int) (I15 : MM) => (inR z10) ∧ (inR z14) ∧ ((z10 = z14 → (∀ u20 : Int, u20 = (x1 + 0) → XM Γ m_X6_blockCount 0 0 13 [(0, vR 1), (1, vI u20), (2, vI (x2 + 1))] [] P I15 (ri P R))) ∧ (¬ z10 = z14 → (∀ u21 : Int, u21 = (x1 + 1) → XM Γ m_X6_blockCount 0 0 13 [(0, vR 1), (1, vI u21), (2, vI (x2 + 1))] [] P I15 (ri P R))))))))))))))) :
    XM Γ m_X6_blockCount 0 0 13 [(0, vR 1), (1, vI x1), (2, vI x2)] [] P I (ri P R) := by
  refine x_iload_n (pc := 13) 2 dX6_blockCount_13 rfl ?_
  refine x_aload_n (pc := 14) 0 dX6_blockCount_14 rfl ?_
  refine x_getI (pc := 15) dX6_blockCount_15 FC6 24 (by decide) rfl fl_X6_263 (LM_ob hM) ?_
  obtain ⟨hr1, h⟩ := h
  obtain ⟨hr2, h⟩ := h
  obtain ⟨hA3, hB4⟩ := h
  refine x_icmp_ge (pc := 18) 64 dX6_blockCount_18 (by decide) hr1 hr2 (fun hc => ?_) (fun hc => ?_)
  · have h := hA3 hc
    refine x_iload_n (pc := 64) 1 dX6_blockCount_64 rfl ?_
    exact x_iret (pc := 65) dX6_blockCount_65 rfl (Nat.le_refl _) (Nat.le_refl _) ⟨_, rfl, rfl, h⟩
  · have h := hB4 hc
    refine x_iload_n (pc := 21) 1 dX6_blockCount_21 rfl ?_
    refine x_iload_n (pc := 22) 2 dX6_blockCount_22 rfl ?_
    obtain ⟨hA5, hB6⟩ := h
    refine x_if_eq (pc := 23) 51 dX6_blockCount_23 (by decide) hr1 (fun hc => ?_) (fun hc => ?_)
    · have h := hA5 hc
      refine x_iconst (pc := 51) dX6_blockCount_51 ?_
      refine x_goto (pc := 52) 56 dX6_blockCount_52 (by decide) ?_
      refine x_iadd (pc := 56) dX6_blockCount_56 ?_
      refine x_nmT (fun u7 eu7 => ?_)
      have h := h u7 eu7
      refine x_istore_n (pc := 57) (al' := [(0, vR 1), (1, vI u7), (2, vI x2)]) dX6_blockCount_57 rfl rfl (Nat.le_of_ble_eq_true rfl) ?_
      refine x_iinc (pc := 58) (al' := [(0, vR 1), (1, vI u7), (2, vI (x2 + 1))]) 2 dX6_blockCount_58 rfl rfl rfl (Nat.le_of_ble_eq_true rfl) ?_
      refine x_goto (pc := 61) 13 dX6_blockCount_61 (by decide) ?_
      exact x_sub [0, 1, 2] rfl h
    · have h := hB6 hc
      refine x_aload_n (pc := 26) 0 dX6_blockCount_26 rfl ?_
      refine x_aload_n (pc := 27) 0 dX6_blockCount_27 rfl ?_
      refine x_getP (pc := 28) dX6_blockCount_28 FC6 23 (by decide) rfl fl_X6_48 (LM_ob hM) (LM_p23 hM) ?_
      refine x_iload_n (pc := 31) 2 dX6_blockCount_31 rfl ?_
      obtain ⟨hv8, h⟩ := h
      obtain ⟨hv9, h⟩ := h
      refine x_iald (pc := 32) dX6_blockCount_32 (LM_a23 hM) hv8 hv9 (by decide) ?_
      refine x_Vi (μ := m_X6_blockCount) (pc := 33) dX6_blockCount_33 h k_X6_machineOf ml_X6_193 ⟨Nat.le_of_ble_eq_true rfl, Nat.le_of_ble_eq_true rfl⟩ ⟨rfl, rfl⟩ ⟨Nat.zero_le _, Nat.zero_le _⟩ rfl (LM_ob hM) rfl (Nat.le_of_ble_eq_true rfl) _ rfl (fun z10 I11 h => ?_)
      refine x_aload_n (pc := 36) 0 dX6_blockCount_36 rfl ?_
      refine x_aload_n (pc := 37) 0 dX6_blockCount_37 rfl ?_
      refine x_getP (pc := 38) dX6_blockCount_38 FC6 23 (by decide) rfl fl_X6_48 (LM_ob hM) (LM_p23 hM) ?_
      refine x_iload_n (pc := 41) 2 dX6_blockCount_41 rfl ?_
      refine x_iconst (pc := 42) dX6_blockCount_42 ?_
      refine x_isub (pc := 43) dX6_blockCount_43 ?_
      obtain ⟨hv12, h⟩ := h
      obtain ⟨hv13, h⟩ := h
      refine x_iald (pc := 44) dX6_blockCount_44 (LM_a23 hM) hv12 hv13 (by decide) ?_
      refine x_Vi (μ := m_X6_blockCount) (pc := 45) dX6_blockCount_45 h k_X6_machineOf ml_X6_193 ⟨Nat.le_of_ble_eq_true rfl, Nat.le_of_ble_eq_true rfl⟩ ⟨rfl, rfl⟩ ⟨Nat.zero_le _, Nat.zero_le _⟩ rfl (LM_ob hM) rfl (Nat.le_of_ble_eq_true rfl) _ rfl (fun z14 I15 h => ?_)
      obtain ⟨hr16, h⟩ := h
      obtain ⟨hr17, h⟩ := h
      obtain ⟨hA18, hB19⟩ := h
      refine x_icmp_eq (pc := 48) 55 dX6_blockCount_48 (by decide) hr16 hr17 (fun hc => ?_) (fun hc => ?_)
      · have h := hA18 hc
        refine x_iconst (pc := 55) dX6_blockCount_55 ?_
        refine x_iadd (pc := 56) dX6_blockCount_56 ?_
        refine x_nmT (fun u20 eu20 => ?_)
        have h := h u20 eu20
        refine x_istore_n (pc := 57) (al' := [(0, vR 1), (1, vI u20), (2, vI x2)]) dX6_blockCount_57 rfl rfl (Nat.le_of_ble_eq_true rfl) ?_
        refine x_iinc (pc := 58) (al' := [(0, vR 1), (1, vI u20), (2, vI (x2 + 1))]) 2 dX6_blockCount_58 rfl rfl rfl (Nat.le_of_ble_eq_true rfl) ?_
        refine x_goto (pc := 61) 13 dX6_blockCount_61 (by decide) ?_
        exact x_sub [0, 1, 2] rfl h
      · have h := hB19 hc
        refine x_iconst (pc := 51) dX6_blockCount_51 ?_
        refine x_goto (pc := 52) 56 dX6_blockCount_52 (by decide) ?_
        refine x_iadd (pc := 56) dX6_blockCount_56 ?_
        refine x_nmT (fun u21 eu21 => ?_)
        have h := h u21 eu21
        refine x_istore_n (pc := 57) (al' := [(0, vR 1), (1, vI u21), (2, vI x2)]) dX6_blockCount_57 rfl rfl (Nat.le_of_ble_eq_true rfl) ?_
        refine x_iinc (pc := 58) (al' := [(0, vR 1), (1, vI u21), (2, vI (x2 + 1))]) 2 dX6_blockCount_58 rfl rfl rfl (Nat.le_of_ble_eq_true rfl) ?_
        refine x_goto (pc := 61) 13 dX6_blockCount_61 (by decide) ?_
        exact x_sub [0, 1, 2] rfl h
set_option maxRecDepth 100000 in
set_option maxHeartbeats 4000000 in
theorem t_X6_longestBlock_0 {Γ : GG} {P : MP} {I : MM} {R : Int → MM → Prop} (hM : LM Γ P)
    (h : (∀ I1 : MM, I1 = up2 I 1 0 0 → (Cl Γ m_X6_findPath [vR 1] P I1 (rv P (fun (I2 : MM) => XM Γ m_X6_longestBlock 0 0 15 [(0, vR 1), (1, vI 0), (2, vI 0), (3, vI 0)] [] P I2 (ri P R)))))) :
    XM Γ m_X6_longestBlock 0 0 0 [(0, vR 1)] [] P I (ri P R) := by
  refine x_aload_n (pc := 0) 0 dX6_longestBlock_0 rfl ?_
  refine x_iconst (pc := 1) dX6_longestBlock_1 ?_
  refine x_putI (pc := 2) dX6_longestBlock_2 FC6 0 (by decide) rfl rfl fl_X6_51 (LM_ob hM) ?_
  refine x_nmI (fun I1 eI1 => ?_)
  have h := h I1 eI1
  refine x_aload_n (pc := 5) 0 dX6_longestBlock_5 rfl ?_
  refine x_Vv (μ := m_X6_longestBlock) (pc := 6) dX6_longestBlock_6 h k_X6_findPath ml_X6_291 ⟨Nat.le_of_ble_eq_true rfl, Nat.le_of_ble_eq_true rfl⟩ ⟨rfl, rfl⟩ ⟨Nat.zero_le _, Nat.zero_le _⟩ rfl (LM_ob hM) rfl (Nat.le_of_ble_eq_true rfl) _ rfl (fun I2 h => ?_)
  refine x_iconst (pc := 9) dX6_longestBlock_9 ?_
  refine x_istore_n (pc := 10) (al' := [(0, vR 1), (1, vI 0)]) dX6_longestBlock_10 rfl rfl (Nat.le_of_ble_eq_true rfl) ?_
  refine x_iconst (pc := 11) dX6_longestBlock_11 ?_
  refine x_istore_n (pc := 12) (al' := [(0, vR 1), (1, vI 0), (2, vI 0)]) dX6_longestBlock_12 rfl rfl (Nat.le_of_ble_eq_true rfl) ?_
  refine x_iconst (pc := 13) dX6_longestBlock_13 ?_
  refine x_istore_n (pc := 14) (al' := [(0, vR 1), (1, vI 0), (2, vI 0), (3, vI 0)]) dX6_longestBlock_14 rfl rfl (Nat.le_of_ble_eq_true rfl) ?_
  exact x_sub [0, 1, 2, 3] rfl h
set_option maxRecDepth 100000 in
set_option maxHeartbeats 4000000 in
theorem t_X6_longestBlock_15 {Γ : GG} {P : MP} {I : MM} {R : Int → MM → Prop} {x1 x2 x3 : Int} (hM : LM Γ P)
    (h : (inR x3) ∧ (inR (I 1 24)) ∧ (((I 1 24) ≤ x3 → R x1 I) ∧ (¬ (I 1 24) ≤ x3 → ((x3 = 0 → (Cl Γ m_X6_max [vI x1, vI 1] P I (ri P (fun (z7 : Int) (I8 : MM) => XM Γ m_X6_longestBlock 0 0 15 [(0, vR 1), (1, vI z7), (2, vI 1), (3, vI (x3 + 1))] [] P I8 (ri P R))))) ∧ (¬ x3 = 0 → (0 ≤ x3) ∧ (x3 < 36) ∧ (Cl Γ m_X6_machineOf [vR 1, vI (I 12 (x3).toNat)] P I (ri P (fun (z11 : Int) (I12 : MM) => (0 ≤ (x3 - 1)) ∧ ((x3 - 1) < 36) ∧ (Cl Γ m_X6_machineOf [vR 1, vI (I12 12 ((x3 - 1)).toNat)] P I12 (ri P (fun (z15 : Int) (I16 : MM) => (inR z11) ∧ (inR z15) ∧ ((z11 = z15 → (∀ u21 : Int, u21 = (x2 + 1) → (Cl Γ m_X6_max [vI x1, vI u21] P I16 (ri P (fun (z22 : Int) (I23 : MM) => XM Γ m_X6_longestBlock 0 0 15 [(0, vR 1), (1, vI z22), (2, vI u21), (3, vI (x3 + 1))] [] P I23 (ri P R)))))) ∧ (¬ z11 = z15 → (Cl Γ m_X6_max [vI x1, vI 1] P I16 (ri P (fun (z24 : Int) (I25 : MM) => XM Γ m_X6_longestBlock 0 0 15 [(0, vR 1), (1, vI z24), (2, vI 1), (3, vI (x3 + 1))] [] P I25 (ri P R))))))))))))))))) :
    XM Γ m_X6_longestBlock 0 0 15 [(0, vR 1), (1, vI x1), (2, vI x2), (3, vI x3)] [] P I (ri P R) := by
  refine x_iload_n (pc := 15) 3 dX6_longestBlock_15 rfl ?_
  refine x_aload_n (pc := 16) 0 dX6_longestBlock_16 rfl ?_
  refine x_getI (pc := 17) dX6_longestBlock_17 FC6 24 (by decide) rfl fl_X6_263 (LM_ob hM) ?_
  obtain ⟨hr1, h⟩ := h
  obtain ⟨hr2, h⟩ := h
  obtain ⟨hA3, hB4⟩ := h
  refine x_icmp_ge (pc := 20) 72 dX6_longestBlock_20 (by decide) hr1 hr2 (fun hc => ?_) (fun hc => ?_)
  · have h := hA3 hc
    refine x_iload_n (pc := 72) 1 dX6_longestBlock_72 rfl ?_
    exact x_iret (pc := 73) dX6_longestBlock_73 rfl (Nat.le_refl _) (Nat.le_refl _) ⟨_, rfl, rfl, h⟩
  · have h := hB4 hc
    refine x_iload_n (pc := 23) 3 dX6_longestBlock_23 rfl ?_
    obtain ⟨hA5, hB6⟩ := h
    refine x_if_eq (pc := 24) 52 dX6_longestBlock_24 (by decide) hr1 (fun hc => ?_) (fun hc => ?_)
    · have h := hA5 hc
      refine x_iconst (pc := 52) dX6_longestBlock_52 ?_
      refine x_goto (pc := 53) 59 dX6_longestBlock_53 (by decide) ?_
      refine x_istore_n (pc := 59) (al' := [(0, vR 1), (1, vI x1), (2, vI 1), (3, vI x3)]) dX6_longestBlock_59 rfl rfl (Nat.le_of_ble_eq_true rfl) ?_
      refine x_iload_n (pc := 60) 1 dX6_longestBlock_60 rfl ?_
      refine x_iload_n (pc := 61) 2 dX6_longestBlock_61 rfl ?_
      refine x_Si (μ := m_X6_longestBlock) (pc := 62) dX6_longestBlock_62 h k_X6_max ml_X6_205 ⟨Nat.le_of_ble_eq_true rfl, Nat.le_of_ble_eq_true rfl⟩ ⟨rfl, rfl⟩ ⟨Nat.zero_le _, Nat.zero_le _⟩ rfl (Nat.le_of_ble_eq_true rfl) _ rfl (fun z7 I8 h => ?_)
      refine x_istore_n (pc := 65) (al' := [(0, vR 1), (1, vI z7), (2, vI 1), (3, vI x3)]) dX6_longestBlock_65 rfl rfl (Nat.le_of_ble_eq_true rfl) ?_
      refine x_iinc (pc := 66) (al' := [(0, vR 1), (1, vI z7), (2, vI 1), (3, vI (x3 + 1))]) 3 dX6_longestBlock_66 rfl rfl rfl (Nat.le_of_ble_eq_true rfl) ?_
      refine x_goto (pc := 69) 15 dX6_longestBlock_69 (by decide) ?_
      exact x_sub [0, 1, 2, 3] rfl h
    · have h := hB6 hc
      refine x_aload_n (pc := 27) 0 dX6_longestBlock_27 rfl ?_
      refine x_aload_n (pc := 28) 0 dX6_longestBlock_28 rfl ?_
      refine x_getP (pc := 29) dX6_longestBlock_29 FC6 23 (by decide) rfl fl_X6_48 (LM_ob hM) (LM_p23 hM) ?_
      refine x_iload_n (pc := 32) 3 dX6_longestBlock_32 rfl ?_
      obtain ⟨hv9, h⟩ := h
      obtain ⟨hv10, h⟩ := h
      refine x_iald (pc := 33) dX6_longestBlock_33 (LM_a23 hM) hv9 hv10 (by decide) ?_
      refine x_Vi (μ := m_X6_longestBlock) (pc := 34) dX6_longestBlock_34 h k_X6_machineOf ml_X6_193 ⟨Nat.le_of_ble_eq_true rfl, Nat.le_of_ble_eq_true rfl⟩ ⟨rfl, rfl⟩ ⟨Nat.zero_le _, Nat.zero_le _⟩ rfl (LM_ob hM) rfl (Nat.le_of_ble_eq_true rfl) _ rfl (fun z11 I12 h => ?_)
      refine x_aload_n (pc := 37) 0 dX6_longestBlock_37 rfl ?_
      refine x_aload_n (pc := 38) 0 dX6_longestBlock_38 rfl ?_
      refine x_getP (pc := 39) dX6_longestBlock_39 FC6 23 (by decide) rfl fl_X6_48 (LM_ob hM) (LM_p23 hM) ?_
      refine x_iload_n (pc := 42) 3 dX6_longestBlock_42 rfl ?_
      refine x_iconst (pc := 43) dX6_longestBlock_43 ?_
      refine x_isub (pc := 44) dX6_longestBlock_44 ?_
      obtain ⟨hv13, h⟩ := h
      obtain ⟨hv14, h⟩ := h
      refine x_iald (pc := 45) dX6_longestBlock_45 (LM_a23 hM) hv13 hv14 (by decide) ?_
      refine x_Vi (μ := m_X6_longestBlock) (pc := 46) dX6_longestBlock_46 h k_X6_machineOf ml_X6_193 ⟨Nat.le_of_ble_eq_true rfl, Nat.le_of_ble_eq_true rfl⟩ ⟨rfl, rfl⟩ ⟨Nat.zero_le _, Nat.zero_le _⟩ rfl (LM_ob hM) rfl (Nat.le_of_ble_eq_true rfl) _ rfl (fun z15 I16 h => ?_)
      obtain ⟨hr17, h⟩ := h
      obtain ⟨hr18, h⟩ := h
      obtain ⟨hA19, hB20⟩ := h
      refine x_icmp_eq (pc := 49) 56 dX6_longestBlock_49 (by decide) hr17 hr18 (fun hc => ?_) (fun hc => ?_)
      · have h := hA19 hc
        refine x_iload_n (pc := 56) 2 dX6_longestBlock_56 rfl ?_
        refine x_iconst (pc := 57) dX6_longestBlock_57 ?_
        refine x_iadd (pc := 58) dX6_longestBlock_58 ?_
        refine x_nmT (fun u21 eu21 => ?_)
        have h := h u21 eu21
        refine x_istore_n (pc := 59) (al' := [(0, vR 1), (1, vI x1), (2, vI u21), (3, vI x3)]) dX6_longestBlock_59 rfl rfl (Nat.le_of_ble_eq_true rfl) ?_
        refine x_iload_n (pc := 60) 1 dX6_longestBlock_60 rfl ?_
        refine x_iload_n (pc := 61) 2 dX6_longestBlock_61 rfl ?_
        refine x_Si (μ := m_X6_longestBlock) (pc := 62) dX6_longestBlock_62 h k_X6_max ml_X6_205 ⟨Nat.le_of_ble_eq_true rfl, Nat.le_of_ble_eq_true rfl⟩ ⟨rfl, rfl⟩ ⟨Nat.zero_le _, Nat.zero_le _⟩ rfl (Nat.le_of_ble_eq_true rfl) _ rfl (fun z22 I23 h => ?_)
        refine x_istore_n (pc := 65) (al' := [(0, vR 1), (1, vI z22), (2, vI u21), (3, vI x3)]) dX6_longestBlock_65 rfl rfl (Nat.le_of_ble_eq_true rfl) ?_
        refine x_iinc (pc := 66) (al' := [(0, vR 1), (1, vI z22), (2, vI u21), (3, vI (x3 + 1))]) 3 dX6_longestBlock_66 rfl rfl rfl (Nat.le_of_ble_eq_true rfl) ?_
        refine x_goto (pc := 69) 15 dX6_longestBlock_69 (by decide) ?_
        exact x_sub [0, 1, 2, 3] rfl h
      · have h := hB20 hc
        refine x_iconst (pc := 52) dX6_longestBlock_52 ?_
        refine x_goto (pc := 53) 59 dX6_longestBlock_53 (by decide) ?_
        refine x_istore_n (pc := 59) (al' := [(0, vR 1), (1, vI x1), (2, vI 1), (3, vI x3)]) dX6_longestBlock_59 rfl rfl (Nat.le_of_ble_eq_true rfl) ?_
        refine x_iload_n (pc := 60) 1 dX6_longestBlock_60 rfl ?_
        refine x_iload_n (pc := 61) 2 dX6_longestBlock_61 rfl ?_
        refine x_Si (μ := m_X6_longestBlock) (pc := 62) dX6_longestBlock_62 h k_X6_max ml_X6_205 ⟨Nat.le_of_ble_eq_true rfl, Nat.le_of_ble_eq_true rfl⟩ ⟨rfl, rfl⟩ ⟨Nat.zero_le _, Nat.zero_le _⟩ rfl (Nat.le_of_ble_eq_true rfl) _ rfl (fun z24 I25 h => ?_)
        refine x_istore_n (pc := 65) (al' := [(0, vR 1), (1, vI z24), (2, vI 1), (3, vI x3)]) dX6_longestBlock_65 rfl rfl (Nat.le_of_ble_eq_true rfl) ?_
        refine x_iinc (pc := 66) (al' := [(0, vR 1), (1, vI z24), (2, vI 1), (3, vI (x3 + 1))]) 3 dX6_longestBlock_66 rfl rfl rfl (Nat.le_of_ble_eq_true rfl) ?_
        refine x_goto (pc := 69) 15 dX6_longestBlock_69 (by decide) ?_
        exact x_sub [0, 1, 2, 3] rfl h
set_option maxRecDepth 100000 in
set_option maxHeartbeats 4000000 in
theorem t_X6_spanAfter_0 {Γ : GG} {P : MP} {I : MM} {R : Int → MM → Prop} {x1 x2 : Int} (hM : LM Γ P)
    (h : (Cl Γ m_X6_exchange [vR 1, vI x1, vI x2] P I (rv P (fun (I1 : MM) => (Cl Γ m_X6_isDeadlocked [vR 1] P I1 (ri P (fun (z2 : Int) (I3 : MM) => (inR z2) ∧ ((z2 = 0 → (Cl Γ m_X6_makespanOf [vR 1] P I3 (ri P (fun (z7 : Int) (I8 : MM) => (Cl Γ m_X6_exchange [vR 1, vI x1, vI x2] P I8 (rv P (fun (I9 : MM) => R z7 I9))))))) ∧ (¬ z2 = 0 → (Cl Γ m_X6_exchange [vR 1, vI x1, vI x2] P I3 (rv P (fun (I10 : MM) => R (-1) I10)))))))))))) :
    XM Γ m_X6_spanAfter 0 0 0 [(0, vR 1), (1, vI x1), (2, vI x2)] [] P I (ri P R) := by
  refine x_aload_n (pc := 0) 0 dX6_spanAfter_0 rfl ?_
  refine x_iload_n (pc := 1) 1 dX6_spanAfter_1 rfl ?_
  refine x_iload_n (pc := 2) 2 dX6_spanAfter_2 rfl ?_
  refine x_Vv (μ := m_X6_spanAfter) (pc := 3) dX6_spanAfter_3 h k_X6_exchange ml_X6_241 ⟨Nat.le_of_ble_eq_true rfl, Nat.le_of_ble_eq_true rfl⟩ ⟨rfl, rfl⟩ ⟨Nat.zero_le _, Nat.zero_le _⟩ rfl (LM_ob hM) rfl (Nat.le_of_ble_eq_true rfl) _ rfl (fun I1 h => ?_)
  refine x_aload_n (pc := 6) 0 dX6_spanAfter_6 rfl ?_
  refine x_Vi (μ := m_X6_spanAfter) (pc := 7) dX6_spanAfter_7 h k_X6_isDeadlocked ml_X6_244 ⟨Nat.le_of_ble_eq_true rfl, Nat.le_of_ble_eq_true rfl⟩ ⟨rfl, rfl⟩ ⟨Nat.zero_le _, Nat.zero_le _⟩ rfl (LM_ob hM) rfl (Nat.le_of_ble_eq_true rfl) _ rfl (fun z2 I3 h => ?_)
  obtain ⟨hr4, h⟩ := h
  obtain ⟨hA5, hB6⟩ := h
  refine x_if_eq (pc := 10) 17 dX6_spanAfter_10 (by decide) hr4 (fun hc => ?_) (fun hc => ?_)
  · have h := hA5 hc
    refine x_aload_n (pc := 17) 0 dX6_spanAfter_17 rfl ?_
    refine x_Vi (μ := m_X6_spanAfter) (pc := 18) dX6_spanAfter_18 h k_X6_makespanOf ml_X6_247 ⟨Nat.le_of_ble_eq_true rfl, Nat.le_of_ble_eq_true rfl⟩ ⟨rfl, rfl⟩ ⟨Nat.zero_le _, Nat.zero_le _⟩ rfl (LM_ob hM) rfl (Nat.le_of_ble_eq_true rfl) _ rfl (fun z7 I8 h => ?_)
    refine x_istore_n (pc := 21) (al' := [(0, vR 1), (1, vI x1), (2, vI x2), (3, vI z7)]) dX6_spanAfter_21 rfl rfl (Nat.le_of_ble_eq_true rfl) ?_
    refine x_aload_n (pc := 22) 0 dX6_spanAfter_22 rfl ?_
    refine x_iload_n (pc := 23) 1 dX6_spanAfter_23 rfl ?_
    refine x_iload_n (pc := 24) 2 dX6_spanAfter_24 rfl ?_
    refine x_Vv (μ := m_X6_spanAfter) (pc := 25) dX6_spanAfter_25 h k_X6_exchange ml_X6_241 ⟨Nat.le_of_ble_eq_true rfl, Nat.le_of_ble_eq_true rfl⟩ ⟨rfl, rfl⟩ ⟨Nat.zero_le _, Nat.zero_le _⟩ rfl (LM_ob hM) rfl (Nat.le_of_ble_eq_true rfl) _ rfl (fun I9 h => ?_)
    refine x_iload_n (pc := 28) 3 dX6_spanAfter_28 rfl ?_
    exact x_iret (pc := 29) dX6_spanAfter_29 rfl (Nat.le_refl _) (Nat.le_refl _) ⟨_, rfl, rfl, h⟩
  · have h := hB6 hc
    refine x_iconst (pc := 13) dX6_spanAfter_13 ?_
    refine x_goto (pc := 14) 21 dX6_spanAfter_14 (by decide) ?_
    refine x_istore_n (pc := 21) (al' := [(0, vR 1), (1, vI x1), (2, vI x2), (3, vI (-1))]) dX6_spanAfter_21 rfl rfl (Nat.le_of_ble_eq_true rfl) ?_
    refine x_aload_n (pc := 22) 0 dX6_spanAfter_22 rfl ?_
    refine x_iload_n (pc := 23) 1 dX6_spanAfter_23 rfl ?_
    refine x_iload_n (pc := 24) 2 dX6_spanAfter_24 rfl ?_
    refine x_Vv (μ := m_X6_spanAfter) (pc := 25) dX6_spanAfter_25 h k_X6_exchange ml_X6_241 ⟨Nat.le_of_ble_eq_true rfl, Nat.le_of_ble_eq_true rfl⟩ ⟨rfl, rfl⟩ ⟨Nat.zero_le _, Nat.zero_le _⟩ rfl (LM_ob hM) rfl (Nat.le_of_ble_eq_true rfl) _ rfl (fun I10 h => ?_)
    refine x_iload_n (pc := 28) 3 dX6_spanAfter_28 rfl ?_
    exact x_iret (pc := 29) dX6_spanAfter_29 rfl (Nat.le_refl _) (Nat.le_refl _) ⟨_, rfl, rfl, h⟩
