set_option maxRecDepth 100000 in
set_option maxHeartbeats 4000000 in
theorem t_X6_isDeadlocked_0 {Γ : GG} {P : MP} {I : MM} {R : Int → MM → Prop} (hM : LM Γ P)
    (h : (Cl Γ m_X6_findStarts [vR 1] P I (ri P (fun (z1 : Int) (I2 : MM) => (inR z1) ∧ ((z1 = 0 → R 1 I2) ∧ (¬ z1 = 0 → (inR (I2 3 1)) ∧ (((I2 3 1) ≠ 0 → R 0 I2) ∧ ((I2 3 1) = 0 → (Cl Γ m_X6_hasCycle [vR 1] P I2 (ri P (fun (z9 : Int) (I10 : MM) => (inR z9) ∧ ((z9 = 0 → R 0 I10) ∧ (¬ z9 = 0 → R 1 I10))))))))))))) :
    XM Γ m_X6_isDeadlocked 0 0 0 [(0, vR 1)] [] P I (ri P R) := by
  refine x_aload_n (pc := 0) 0 dX6_isDeadlocked_0 rfl ?_
  refine x_Vi (μ := m_X6_isDeadlocked) (pc := 1) dX6_isDeadlocked_1 h k_X6_findStarts ml_X6_217 ⟨Nat.le_of_ble_eq_true rfl, Nat.le_of_ble_eq_true rfl⟩ ⟨rfl, rfl⟩ ⟨Nat.zero_le _, Nat.zero_le _⟩ rfl (LM_ob hM) rfl (Nat.le_of_ble_eq_true rfl) _ rfl (fun z1 I2 h => ?_)
  obtain ⟨hr3, h⟩ := h
  obtain ⟨hA4, hB5⟩ := h
  refine x_if_eq (pc := 4) 23 dX6_isDeadlocked_4 (by decide) hr3 (fun hc => ?_) (fun hc => ?_)
  · have h := hA4 hc
    refine x_iconst (pc := 23) dX6_isDeadlocked_23 ?_
    refine x_goto (pc := 24) 28 dX6_isDeadlocked_24 (by decide) ?_
    exact x_zret (pc := 28) dX6_isDeadlocked_28 rfl (by decide) (Nat.le_refl _) (Nat.le_refl _) ⟨_, rfl, rfl, h⟩
  · have h := hB5 hc
    refine x_aload_n (pc := 7) 0 dX6_isDeadlocked_7 rfl ?_
    refine x_getP (pc := 8) dX6_isDeadlocked_8 FC6 8 (by decide) rfl fl_X6_17 (LM_ob hM) (LM_p8 hM) ?_
    refine x_iconst (pc := 11) dX6_isDeadlocked_11 ?_
    refine x_iald (pc := 12) dX6_isDeadlocked_12 (LM_a8 hM) (by decide) (by decide) (by decide) ?_
    obtain ⟨hr6, h⟩ := h
    obtain ⟨hA7, hB8⟩ := h
    refine x_if_ne (pc := 13) 27 dX6_isDeadlocked_13 (by decide) hr6 (fun hc => ?_) (fun hc => ?_)
    · have h := hA7 hc
      refine x_iconst (pc := 27) dX6_isDeadlocked_27 ?_
      exact x_zret (pc := 28) dX6_isDeadlocked_28 rfl (by decide) (Nat.le_refl _) (Nat.le_refl _) ⟨_, rfl, rfl, h⟩
    · have h := hB8 hc
      refine x_aload_n (pc := 16) 0 dX6_isDeadlocked_16 rfl ?_
      refine x_Vi (μ := m_X6_isDeadlocked) (pc := 17) dX6_isDeadlocked_17 h k_X6_hasCycle ml_X6_220 ⟨Nat.le_of_ble_eq_true rfl, Nat.le_of_ble_eq_true rfl⟩ ⟨rfl, rfl⟩ ⟨Nat.zero_le _, Nat.zero_le _⟩ rfl (LM_ob hM) rfl (Nat.le_of_ble_eq_true rfl) _ rfl (fun z9 I10 h => ?_)
      obtain ⟨hr11, h⟩ := h
      obtain ⟨hA12, hB13⟩ := h
      refine x_if_eq (pc := 20) 27 dX6_isDeadlocked_20 (by decide) hr11 (fun hc => ?_) (fun hc => ?_)
      · have h := hA12 hc
        refine x_iconst (pc := 27) dX6_isDeadlocked_27 ?_
        exact x_zret (pc := 28) dX6_isDeadlocked_28 rfl (by decide) (Nat.le_refl _) (Nat.le_refl _) ⟨_, rfl, rfl, h⟩
      · have h := hB13 hc
        refine x_iconst (pc := 23) dX6_isDeadlocked_23 ?_
        refine x_goto (pc := 24) 28 dX6_isDeadlocked_24 (by decide) ?_
        exact x_zret (pc := 28) dX6_isDeadlocked_28 rfl (by decide) (Nat.le_refl _) (Nat.le_refl _) ⟨_, rfl, rfl, h⟩
set_option maxRecDepth 100000 in
set_option maxHeartbeats 4000000 in
theorem t_X6_completionOf_0 {Γ : GG} {P : MP} {I : MM} {R : Int → MM → Prop} {x1 : Int} (hM : LM Γ P)
    (h : (Cl Γ m_X6_job [vI x1] P I (ri P (fun (z1 : Int) (I2 : MM) => (0 ≤ (z1 + 3)) ∧ ((z1 + 3) < 1655) ∧ (∀ u5 : Int, u5 = (((6 * x1) + (I2 3 ((z1 + 3)).toNat)) - 1) → (0 ≤ u5) ∧ (u5 < 36) ∧ (Cl Γ m_X6_durationOf [vR 1, vI u5] P I2 (ri P (fun (z8 : Int) (I9 : MM) => R ((I2 9 (u5).toNat) + z8) I9)))))))) :
    XM Γ m_X6_completionOf 0 0 0 [(0, vR 1), (1, vI x1)] [] P I (ri P R) := by
  refine x_bipush (pc := 0) dX6_completionOf_0 rfl ?_
  refine x_iload_n (pc := 2) 1 dX6_completionOf_2 rfl ?_
  refine x_imul (pc := 3) dX6_completionOf_3 ?_
  refine x_aload_n (pc := 4) 0 dX6_completionOf_4 rfl ?_
  refine x_getP (pc := 5) dX6_completionOf_5 FC6 8 (by decide) rfl fl_X6_17 (LM_ob hM) (LM_p8 hM) ?_
  refine x_iload_n (pc := 8) 1 dX6_completionOf_8 rfl ?_
  refine x_Si (μ := m_X6_completionOf) (pc := 9) dX6_completionOf_9 h k_X6_job ml_X6_147 ⟨Nat.le_of_ble_eq_true rfl, Nat.le_of_ble_eq_true rfl⟩ ⟨rfl, rfl⟩ ⟨Nat.zero_le _, Nat.zero_le _⟩ rfl (Nat.le_of_ble_eq_true rfl) _ rfl (fun z1 I2 h => ?_)
  refine x_iconst (pc := 12) dX6_completionOf_12 ?_
  refine x_iadd (pc := 13) dX6_completionOf_13 ?_
  obtain ⟨hv3, h⟩ := h
  obtain ⟨hv4, h⟩ := h
  refine x_iald (pc := 14) dX6_completionOf_14 (LM_a8 hM) hv3 hv4 (by decide) ?_
  refine x_iadd (pc := 15) dX6_completionOf_15 ?_
  refine x_iconst (pc := 16) dX6_completionOf_16 ?_
  refine x_isub (pc := 17) dX6_completionOf_17 ?_
  refine x_nmT (fun u5 eu5 => ?_)
  have h := h u5 eu5
  refine x_istore_n (pc := 18) (al' := [(0, vR 1), (1, vI x1), (2, vI u5)]) dX6_completionOf_18 rfl rfl (Nat.le_of_ble_eq_true rfl) ?_
  refine x_aload_n (pc := 19) 0 dX6_completionOf_19 rfl ?_
  refine x_getP (pc := 20) dX6_completionOf_20 FC6 18 (by decide) rfl fl_X6_37 (LM_ob hM) (LM_p18 hM) ?_
  refine x_iload_n (pc := 23) 2 dX6_completionOf_23 rfl ?_
  obtain ⟨hv6, h⟩ := h
  obtain ⟨hv7, h⟩ := h
  refine x_iald (pc := 24) dX6_completionOf_24 (LM_a18 hM) hv6 hv7 (by decide) ?_
  refine x_aload_n (pc := 25) 0 dX6_completionOf_25 rfl ?_
  refine x_iload_n (pc := 26) 2 dX6_completionOf_26 rfl ?_
  refine x_Vi (μ := m_X6_completionOf) (pc := 27) dX6_completionOf_27 h k_X6_durationOf ml_X6_202 ⟨Nat.le_of_ble_eq_true rfl, Nat.le_of_ble_eq_true rfl⟩ ⟨rfl, rfl⟩ ⟨Nat.zero_le _, Nat.zero_le _⟩ rfl (LM_ob hM) rfl (Nat.le_of_ble_eq_true rfl) _ rfl (fun z8 I9 h => ?_)
  refine x_iadd (pc := 30) dX6_completionOf_30 ?_
  exact x_iret (pc := 31) dX6_completionOf_31 rfl (Nat.le_refl _) (Nat.le_refl _) ⟨_, rfl, rfl, h⟩
set_option maxRecDepth 100000 in
set_option maxHeartbeats 4000000 in
theorem t_X6_makespanOf_0 {Γ : GG} {P : MP} {I : MM} {R : Int → MM → Prop} (hM : LM Γ P)
    (h : XM Γ m_X6_makespanOf 0 0 4 [(0, vR 1), (1, vI 0), (2, vI 0)] [] P I (ri P R)) :
    XM Γ m_X6_makespanOf 0 0 0 [(0, vR 1)] [] P I (ri P R) := by
  refine x_iconst (pc := 0) dX6_makespanOf_0 ?_
  refine x_istore_n (pc := 1) (al' := [(0, vR 1), (1, vI 0)]) dX6_makespanOf_1 rfl rfl (Nat.le_of_ble_eq_true rfl) ?_
  refine x_iconst (pc := 2) dX6_makespanOf_2 ?_
  refine x_istore_n (pc := 3) (al' := [(0, vR 1), (1, vI 0), (2, vI 0)]) dX6_makespanOf_3 rfl rfl (Nat.le_of_ble_eq_true rfl) ?_
  exact x_sub [0, 1, 2] rfl h
set_option maxRecDepth 100000 in
set_option maxHeartbeats 4000000 in
theorem t_X6_makespanOf_4 {Γ : GG} {P : MP} {I : MM} {R : Int → MM → Prop} {x1 x2 : Int} (hM : LM Γ P)
    (h : (inR x2) ∧ (inR (I 3 2)) ∧ (((I 3 2) ≤ x2 → R x1 I) ∧ (¬ (I 3 2) ≤ x2 → (Cl Γ m_X6_completionOf [vR 1, vI x2] P I (ri P (fun (z5 : Int) (I6 : MM) => (Cl Γ m_X6_max [vI x1, vI z5] P I6 (ri P (fun (z7 : Int) (I8 : MM) => XM Γ m_X6_makespanOf 0 0 4 [(0, vR 1), (1, vI z7), (2, vI (x2 + 1))] [] P I8 (ri P R)))))))))) :
    XM Γ m_X6_makespanOf 0 0 4 [(0, vR 1), (1, vI x1), (2, vI x2)] [] P I (ri P R) := by
  refine x_iload_n (pc := 4) 2 dX6_makespanOf_4 rfl ?_
  refine x_aload_n (pc := 5) 0 dX6_makespanOf_5 rfl ?_
  refine x_getP (pc := 6) dX6_makespanOf_6 FC6 8 (by decide) rfl fl_X6_17 (LM_ob hM) (LM_p8 hM) ?_
  refine x_iconst (pc := 9) dX6_makespanOf_9 ?_
  refine x_iald (pc := 10) dX6_makespanOf_10 (LM_a8 hM) (by decide) (by decide) (by decide) ?_
  obtain ⟨hr1, h⟩ := h
  obtain ⟨hr2, h⟩ := h
  obtain ⟨hA3, hB4⟩ := h
  refine x_icmp_ge (pc := 11) 30 dX6_makespanOf_11 (by decide) hr1 hr2 (fun hc => ?_) (fun hc => ?_)
  · have h := hA3 hc
    refine x_iload_n (pc := 30) 1 dX6_makespanOf_30 rfl ?_
    exact x_iret (pc := 31) dX6_makespanOf_31 rfl (Nat.le_refl _) (Nat.le_refl _) ⟨_, rfl, rfl, h⟩
  · have h := hB4 hc
    refine x_iload_n (pc := 14) 1 dX6_makespanOf_14 rfl ?_
    refine x_aload_n (pc := 15) 0 dX6_makespanOf_15 rfl ?_
    refine x_iload_n (pc := 16) 2 dX6_makespanOf_16 rfl ?_
    refine x_Vi (μ := m_X6_makespanOf) (pc := 17) dX6_makespanOf_17 h k_X6_completionOf ml_X6_223 ⟨Nat.le_of_ble_eq_true rfl, Nat.le_of_ble_eq_true rfl⟩ ⟨rfl, rfl⟩ ⟨Nat.zero_le _, Nat.zero_le _⟩ rfl (LM_ob hM) rfl (Nat.le_of_ble_eq_true rfl) _ rfl (fun z5 I6 h => ?_)
    refine x_Si (μ := m_X6_makespanOf) (pc := 20) dX6_makespanOf_20 h k_X6_max ml_X6_205 ⟨Nat.le_of_ble_eq_true rfl, Nat.le_of_ble_eq_true rfl⟩ ⟨rfl, rfl⟩ ⟨Nat.zero_le _, Nat.zero_le _⟩ rfl (Nat.le_of_ble_eq_true rfl) _ rfl (fun z7 I8 h => ?_)
    refine x_istore_n (pc := 23) (al' := [(0, vR 1), (1, vI z7), (2, vI x2)]) dX6_makespanOf_23 rfl rfl (Nat.le_of_ble_eq_true rfl) ?_
    refine x_iinc (pc := 24) (al' := [(0, vR 1), (1, vI z7), (2, vI (x2 + 1))]) 2 dX6_makespanOf_24 rfl rfl rfl (Nat.le_of_ble_eq_true rfl) ?_
    refine x_goto (pc := 27) 4 dX6_makespanOf_27 (by decide) ?_
    exact x_sub [0, 1, 2] rfl h
set_option maxRecDepth 100000 in
set_option maxHeartbeats 4000000 in
theorem t_X6_limited_0 {Γ : GG} {P : MP} {I : MM} {R : Int → MM → Prop} {x0 : Int} 
    (h : (inL x0) ∧ (((lc x0 1000000) ≤ 0 → ((0 ≤ (lc x0 (-1000000)) → R x0 I) ∧ (¬ 0 ≤ (lc x0 (-1000000)) → R (-1000000) I))) ∧ (¬ (lc x0 1000000) ≤ 0 → R 1000000 I))) :
    XM Γ m_X6_limited 0 0 0 [(0, vL x0)] [] P I (rl P R) := by
  refine x_lload_n (pc := 0) 0 dX6_limited_0 rfl ?_
  refine x_ldc2 (pc := 1) (1000000) dX6_limited_1 kc_X6_226 ?_
  obtain ⟨hr1, h⟩ := h
  refine x_lcmp (pc := 4) dX6_limited_4 hr1 ⟨by decide, by decide⟩ ?_
  obtain ⟨hA2, hB3⟩ := h
  refine x_if_le (pc := 5) 14 dX6_limited_5 (by decide) inR_lc (fun hc => ?_) (fun hc => ?_)
  · have h := hA2 hc
    refine x_lload_n (pc := 14) 0 dX6_limited_14 rfl ?_
    refine x_ldc2 (pc := 15) (-1000000) dX6_limited_15 kc_X6_228 ?_
    refine x_lcmp (pc := 18) dX6_limited_18 hr1 ⟨by decide, by decide⟩ ?_
    obtain ⟨hA4, hB5⟩ := h
    refine x_if_ge (pc := 19) 28 dX6_limited_19 (by decide) inR_lc (fun hc => ?_) (fun hc => ?_)
    · have h := hA4 hc
      refine x_lload_n (pc := 28) 0 dX6_limited_28 rfl ?_
      exact x_lret (pc := 29) dX6_limited_29 rfl (Nat.le_refl _) (Nat.le_refl _) ⟨_, rfl, rfl, h⟩
    · have h := hB5 hc
      refine x_ldc2 (pc := 22) (-1000000) dX6_limited_22 kc_X6_228 ?_
      refine x_goto (pc := 25) 29 dX6_limited_25 (by decide) ?_
      exact x_lret (pc := 29) dX6_limited_29 rfl (Nat.le_refl _) (Nat.le_refl _) ⟨_, rfl, rfl, h⟩
  · have h := hB3 hc
    refine x_ldc2 (pc := 8) (1000000) dX6_limited_8 kc_X6_226 ?_
    refine x_goto (pc := 11) 29 dX6_limited_11 (by decide) ?_
    exact x_lret (pc := 29) dX6_limited_29 rfl (Nat.le_refl _) (Nat.le_refl _) ⟨_, rfl, rfl, h⟩
set_option maxRecDepth 100000 in
set_option maxHeartbeats 4000000 in
theorem t_X6_operate_0 {Γ : GG} {P : MP} {I : MM} {R : Int → MM → Prop} {x0 x1 x3 : Int} 
    (h : (inR x0) ∧ ((x0 ≠ 5 → ((x0 ≠ 2 → ((x0 ≠ 3 → (Cl Γ m_X6_limited [vL (x1 * x3)] P I (rl P (fun (z8 : Int) (I9 : MM) => R z8 I9)))) ∧ (x0 = 3 → (Cl Γ m_X6_limited [vL (x1 - x3)] P I (rl P (fun (z10 : Int) (I11 : MM) => R z10 I11)))))) ∧ (x0 = 2 → (Cl Γ m_X6_limited [vL (x1 + x3)] P I (rl P (fun (z12 : Int) (I13 : MM) => R z12 I13)))))) ∧ (x0 = 5 → (inL x3) ∧ (((lc x3 0) ≠ 0 → (inR x1) ∧ (x3 ≠ 0) ∧ R (Int.tdiv x1 x3) I) ∧ ((lc x3 0) = 0 → R 0 I))))) :
    XM Γ m_X6_operate 0 0 0 [(0, vI x0), (1, vL x1), (3, vL x3)] [] P I (rl P R) := by
  refine x_iload_n (pc := 0) 0 dX6_operate_0 rfl ?_
  refine x_iconst (pc := 1) dX6_operate_1 ?_
  obtain ⟨hr1, h⟩ := h
  obtain ⟨hA2, hB3⟩ := h
  refine x_icmp_ne (pc := 2) 19 dX6_operate_2 (by decide) hr1 ⟨by decide, by decide⟩ (fun hc => ?_) (fun hc => ?_)
  · have h := hA2 hc
    refine x_iload_n (pc := 19) 0 dX6_operate_19 rfl ?_
    refine x_iconst (pc := 20) dX6_operate_20 ?_
    obtain ⟨hA4, hB5⟩ := h
    refine x_icmp_ne (pc := 21) 30 dX6_operate_21 (by decide) hr1 ⟨by decide, by decide⟩ (fun hc => ?_) (fun hc => ?_)
    · have h := hA4 hc
      refine x_iload_n (pc := 30) 0 dX6_operate_30 rfl ?_
      refine x_iconst (pc := 31) dX6_operate_31 ?_
      obtain ⟨hA6, hB7⟩ := h
      refine x_icmp_ne (pc := 32) 41 dX6_operate_32 (by decide) hr1 ⟨by decide, by decide⟩ (fun hc => ?_) (fun hc => ?_)
      · have h := hA6 hc
        refine x_lload_n (pc := 41) 1 dX6_operate_41 rfl ?_
        refine x_lload_n (pc := 42) 2 dX6_operate_42 rfl ?_
        refine x_lmul (pc := 43) dX6_operate_43 ?_
        refine x_Sl (μ := m_X6_operate) (pc := 44) dX6_operate_44 h k_X6_limited ml_X6_230 ⟨Nat.le_of_ble_eq_true rfl, Nat.le_of_ble_eq_true rfl⟩ ⟨rfl, rfl⟩ ⟨Nat.zero_le _, Nat.zero_le _⟩ rfl (Nat.le_of_ble_eq_true rfl) _ rfl (fun z8 I9 h => ?_)
        exact x_lret (pc := 47) dX6_operate_47 rfl (Nat.le_refl _) (Nat.le_refl _) ⟨_, rfl, rfl, h⟩
      · have h := hB7 hc
        refine x_lload_n (pc := 35) 1 dX6_operate_35 rfl ?_
        refine x_lload_n (pc := 36) 2 dX6_operate_36 rfl ?_
        refine x_lsub (pc := 37) dX6_operate_37 ?_
        refine x_goto (pc := 38) 44 dX6_operate_38 (by decide) ?_
        refine x_Sl (μ := m_X6_operate) (pc := 44) dX6_operate_44 h k_X6_limited ml_X6_230 ⟨Nat.le_of_ble_eq_true rfl, Nat.le_of_ble_eq_true rfl⟩ ⟨rfl, rfl⟩ ⟨Nat.zero_le _, Nat.zero_le _⟩ rfl (Nat.le_of_ble_eq_true rfl) _ rfl (fun z10 I11 h => ?_)
        exact x_lret (pc := 47) dX6_operate_47 rfl (Nat.le_refl _) (Nat.le_refl _) ⟨_, rfl, rfl, h⟩
    · have h := hB5 hc
      refine x_lload_n (pc := 24) 1 dX6_operate_24 rfl ?_
      refine x_lload_n (pc := 25) 2 dX6_operate_25 rfl ?_
      refine x_ladd (pc := 26) dX6_operate_26 ?_
      refine x_goto (pc := 27) 44 dX6_operate_27 (by decide) ?_
      refine x_Sl (μ := m_X6_operate) (pc := 44) dX6_operate_44 h k_X6_limited ml_X6_230 ⟨Nat.le_of_ble_eq_true rfl, Nat.le_of_ble_eq_true rfl⟩ ⟨rfl, rfl⟩ ⟨Nat.zero_le _, Nat.zero_le _⟩ rfl (Nat.le_of_ble_eq_true rfl) _ rfl (fun z12 I13 h => ?_)
      exact x_lret (pc := 47) dX6_operate_47 rfl (Nat.le_refl _) (Nat.le_refl _) ⟨_, rfl, rfl, h⟩
  · have h := hB3 hc
    refine x_lload_n (pc := 5) 2 dX6_operate_5 rfl ?_
    refine x_lconst (pc := 6) 0 dX6_operate_6 rfl ?_
    obtain ⟨hr14, h⟩ := h
    refine x_lcmp (pc := 7) dX6_operate_7 hr14 ⟨by decide, by decide⟩ ?_
    obtain ⟨hA15, hB16⟩ := h
    refine x_if_ne (pc := 8) 15 dX6_operate_8 (by decide) inR_lc (fun hc => ?_) (fun hc => ?_)
    · have h := hA15 hc
      refine x_lload_n (pc := 15) 1 dX6_operate_15 rfl ?_
      refine x_lload_n (pc := 16) 2 dX6_operate_16 rfl ?_
      obtain ⟨hr17, h⟩ := h
      obtain ⟨hv18, h⟩ := h
      refine x_ldiv (pc := 17) dX6_operate_17 hr17 hr14 hv18 ?_
      exact x_lret (pc := 18) dX6_operate_18 rfl (Nat.le_refl _) (Nat.le_refl _) ⟨_, rfl, rfl, h⟩
    · have h := hB16 hc
      refine x_lconst (pc := 11) 0 dX6_operate_11 rfl ?_
      refine x_goto (pc := 12) 18 dX6_operate_12 (by decide) ?_
      exact x_lret (pc := 18) dX6_operate_18 rfl (Nat.le_refl _) (Nat.le_refl _) ⟨_, rfl, rfl, h⟩
set_option maxRecDepth 100000 in
set_option maxHeartbeats 4000000 in
theorem t_X6_costOf_0 {Γ : GG} {P : MP} {I : MM} {R : Int → MM → Prop} {x1 : Int} (hM : LM Γ P)
    (h : (Cl Γ m_X6_completionOf [vR 1, vI x1] P I (ri P (fun (z1 : Int) (I2 : MM) => (inR (I2 3 3)) ∧ (((I2 3 3) ≠ 0 → XM Γ m_X6_costOf 0 0 22 [(0, vR 1), (1, vI x1), (2, vI z1), (3, vI 0), (4, vI 0)] [] P I2 (ri P R)) ∧ ((I2 3 3) = 0 → R z1 I2)))))) :
    XM Γ m_X6_costOf 0 0 0 [(0, vR 1), (1, vI x1)] [] P I (ri P R) := by
  refine x_aload_n (pc := 0) 0 dX6_costOf_0 rfl ?_
  refine x_iload_n (pc := 1) 1 dX6_costOf_1 rfl ?_
  refine x_Vi (μ := m_X6_costOf) (pc := 2) dX6_costOf_2 h k_X6_completionOf ml_X6_223 ⟨Nat.le_of_ble_eq_true rfl, Nat.le_of_ble_eq_true rfl⟩ ⟨rfl, rfl⟩ ⟨Nat.zero_le _, Nat.zero_le _⟩ rfl (LM_ob hM) rfl (Nat.le_of_ble_eq_true rfl) _ rfl (fun z1 I2 h => ?_)
  refine x_istore_n (pc := 5) (al' := [(0, vR 1), (1, vI x1), (2, vI z1)]) dX6_costOf_5 rfl rfl (Nat.le_of_ble_eq_true rfl) ?_
  refine x_iconst (pc := 6) dX6_costOf_6 ?_
  refine x_istore_n (pc := 7) (al' := [(0, vR 1), (1, vI x1), (2, vI z1), (3, vI 0)]) dX6_costOf_7 rfl rfl (Nat.le_of_ble_eq_true rfl) ?_
  refine x_aload_n (pc := 8) 0 dX6_costOf_8 rfl ?_
  refine x_getP (pc := 9) dX6_costOf_9 FC6 8 (by decide) rfl fl_X6_17 (LM_ob hM) (LM_p8 hM) ?_
  refine x_iconst (pc := 12) dX6_costOf_12 ?_
  refine x_iald (pc := 13) dX6_costOf_13 (LM_a8 hM) (by decide) (by decide) (by decide) ?_
  obtain ⟨hr3, h⟩ := h
  obtain ⟨hA4, hB5⟩ := h
  refine x_if_ne (pc := 14) 19 dX6_costOf_14 (by decide) hr3 (fun hc => ?_) (fun hc => ?_)
  · have h := hA4 hc
    refine x_iconst (pc := 19) dX6_costOf_19 ?_
    refine x_istore (pc := 20) (al' := [(0, vR 1), (1, vI x1), (2, vI z1), (3, vI 0), (4, vI 0)]) dX6_costOf_20 rfl rfl (Nat.le_of_ble_eq_true rfl) ?_
    exact x_sub [0, 1, 2, 3, 4] rfl h
  · have h := hB5 hc
    refine x_iload_n (pc := 17) 2 dX6_costOf_17 rfl ?_
    exact x_iret (pc := 18) dX6_costOf_18 rfl (Nat.le_refl _) (Nat.le_refl _) ⟨_, rfl, rfl, h⟩
set_option maxRecDepth 100000 in
set_option maxHeartbeats 4000000 in
theorem t_X6_costOf_22 {Γ : GG} {P : MP} {I : MM} {R : Int → MM → Prop} {x1 x2 x3 x4 : Int} (hM : LM Γ P)
    (h : (inR x4) ∧ (inR (I 3 4)) ∧ (((I 3 4) ≤ x4 → R (I 11 0) I) ∧ (¬ (I 3 4) ≤ x4 → (0 ≤ (155 + x4)) ∧ ((155 + x4) < 1655) ∧ (∀ u7 : Int, u7 = (I 3 ((155 + x4)).toNat) → (inR u7) ∧ ((1 < u7 → (0 ≤ ((x3 + (-1)) - 1)) ∧ (((x3 + (-1)) - 1) < 1500) ∧ (0 ≤ (x3 + (-1))) ∧ ((x3 + (-1)) < 1500) ∧ (Cl Γ m_X6_operate [vI u7, vL (I 11 (((x3 + (-1)) - 1)).toNat), vL (I 11 ((x3 + (-1))).toNat)] P I (rl P (fun (z15 : Int) (I16 : MM) => (∀ I17 : MM, I17 = up2 I16 11 (((x3 + (-1)) - 1)).toNat z15 → XM Γ m_X6_costOf 0 0 22 [(0, vR 1), (1, vI x1), (2, vI x2), (3, vI (x3 + (-1))), (4, vI (x4 + 1))] [] P I17 (ri P R)))))) ∧ (¬ 1 < u7 → (0 ≤ (155 + (x4 + 1))) ∧ ((155 + (x4 + 1)) < 1655) ∧ (∀ u20 : Int, u20 = (I 3 ((155 + (x4 + 1))).toNat) → ((u7 ≠ 0 → (inR u20) ∧ ((u20 ≠ 0 → ((u20 ≠ 1 → ((u20 ≠ 2 → (Cl Γ m_X6_job [vI x1] P I (ri P (fun (z30 : Int) (I31 : MM) => (0 ≤ z30) ∧ (z30 < 1655) ∧ (inR (I31 3 (z30).toNat)) ∧ (0 ≤ x3) ∧ (x3 < 1500) ∧ (∀ I37 : MM, I37 = up2 I31 11 (x3).toNat (I31 3 (z30).toNat) → XM Γ m_X6_costOf 0 0 22 [(0, vR 1), (1, vI x1), (2, vI x2), (3, vI (x3 + 1)), (4, vI ((x4 + 1) + 1))] [] P I37 (ri P R)))))) ∧ (u20 = 2 → (Cl Γ m_X6_job [vI x1] P I (ri P (fun (z38 : Int) (I39 : MM) => (0 ≤ (z38 + 2)) ∧ ((z38 + 2) < 1655) ∧ (inR (I39 3 ((z38 + 2)).toNat)) ∧ (0 ≤ x3) ∧ (x3 < 1500) ∧ (∀ I45 : MM, I45 = up2 I39 11 (x3).toNat (I39 3 ((z38 + 2)).toNat) → XM Γ m_X6_costOf 0 0 22 [(0, vR 1), (1, vI x1), (2, vI x2), (3, vI (x3 + 1)), (4, vI ((x4 + 1) + 1))] [] P I45 (ri P R)))))))) ∧ (u20 = 1 → (Cl Γ m_X6_job [vI x1] P I (ri P (fun (z46 : Int) (I47 : MM) => (0 ≤ (z46 + 1)) ∧ ((z46 + 1) < 1655) ∧ (inR (I47 3 ((z46 + 1)).toNat)) ∧ (0 ≤ x3) ∧ (x3 < 1500) ∧ (∀ I53 : MM, I53 = up2 I47 11 (x3).toNat (I47 3 ((z46 + 1)).toNat) → XM Γ m_X6_costOf 0 0 22 [(0, vR 1), (1, vI x1), (2, vI x2), (3, vI (x3 + 1)), (4, vI ((x4 + 1) + 1))] [] P I53 (ri P R)))))))) ∧ (u20 = 0 → (inR x2) ∧ (0 ≤ x3) ∧ (x3 < 1500) ∧ (∀ I57 : MM, I57 = up2 I 11 (x3).toNat x2 → XM Γ m_X6_costOf 0 0 22 [(0, vR 1), (1, vI x1), (2, vI x2), (3, vI (x3 + 1)), (4, vI ((x4 + 1) + 1))] [] P I57 (ri P R))))) ∧ (u7 = 0 → (inR u20) ∧ (0 ≤ x3) ∧ (x3 < 1500) ∧ (∀ I61 : MM, I61 = up2 I 11 (x3).toNat u20 → XM Γ m_X6_costOf 0 0 22 [(0, vR 1), (1, vI x1), (2, vI x2), (3, vI (x3 + 1)), (4, vI ((x4 + 1) + 1))] [] P I61 (ri P R))))))))))) :
    XM Γ m_X6_costOf 0 0 22 [(0, vR 1), (1, vI x1), (2, vI x2), (3, vI x3), (4, vI x4)] [] P I (ri P R) := by
  refine x_iload (pc := 22) 4 dX6_costOf_22 rfl ?_
  refine x_aload_n (pc := 24) 0 dX6_costOf_24 rfl ?_
  refine x_getP (pc := 25) dX6_costOf_25 FC6 8 (by decide) rfl fl_X6_17 (LM_ob hM) (LM_p8 hM) ?_
  refine x_iconst (pc := 28) dX6_costOf_28 ?_
  refine x_iald (pc := 29) dX6_costOf_29 (LM_a8 hM) (by decide) (by decide) (by decide) ?_
  obtain ⟨hr1, h⟩ := h
  obtain ⟨hr2, h⟩ := h
  obtain ⟨hA3, hB4⟩ := h
  refine x_icmp_ge (pc := 30) 189 dX6_costOf_30 (by decide) hr1 hr2 (fun hc => ?_) (fun hc => ?_)
  · have h := hA3 hc
    refine x_aload_n (pc := 189) 0 dX6_costOf_189 rfl ?_
    refine x_getP (pc := 190) dX6_costOf_190 FC6 20 (by decide) rfl fl_X6_44 (LM_ob hM) (LM_p20 hM) ?_
    refine x_iconst (pc := 193) dX6_costOf_193 ?_
    refine x_lald (pc := 194) dX6_costOf_194 (LM_a20 hM) (by decide) (by decide) (by decide) ?_
    refine x_l2i (pc := 195) dX6_costOf_195 ?_
    exact x_iret (pc := 196) dX6_costOf_196 rfl (Nat.le_refl _) (Nat.le_refl _) ⟨_, rfl, rfl, h⟩
  · have h := hB4 hc
    refine x_aload_n (pc := 33) 0 dX6_costOf_33 rfl ?_
    refine x_getP (pc := 34) dX6_costOf_34 FC6 8 (by decide) rfl fl_X6_17 (LM_ob hM) (LM_p8 hM) ?_
    refine x_sipush (pc := 37) dX6_costOf_37 rfl ?_
    refine x_iload (pc := 40) 4 dX6_costOf_40 rfl ?_
    refine x_iadd (pc := 42) dX6_costOf_42 ?_
    obtain ⟨hv5, h⟩ := h
    obtain ⟨hv6, h⟩ := h
    refine x_iald (pc := 43) dX6_costOf_43 (LM_a8 hM) hv5 hv6 (by decide) ?_
    refine x_nmT (fun u7 eu7 => ?_)
    have h := h u7 eu7
    refine x_istore (pc := 44) (al' := [(0, vR 1), (1, vI x1), (2, vI x2), (3, vI x3), (4, vI x4), (5, vI u7)]) dX6_costOf_44 rfl rfl (Nat.le_of_ble_eq_true rfl) ?_
    refine x_iload (pc := 46) 5 dX6_costOf_46 rfl ?_
    refine x_iconst (pc := 48) dX6_costOf_48 ?_
    obtain ⟨hr8, h⟩ := h
    obtain ⟨hA9, hB10⟩ := h
    refine x_icmp_gt (pc := 49) 153 dX6_costOf_49 (by decide) hr8 ⟨by decide, by decide⟩ (fun hc => ?_) (fun hc => ?_)
    · have h := hA9 hc
      refine x_iinc (pc := 153) (al' := [(0, vR 1), (1, vI x1), (2, vI x2), (3, vI (x3 + (-1))), (4, vI x4), (5, vI u7)]) 3 dX6_costOf_153 rfl rfl rfl (Nat.le_of_ble_eq_true rfl) ?_
      refine x_aload_n (pc := 156) 0 dX6_costOf_156 rfl ?_
      refine x_getP (pc := 157) dX6_costOf_157 FC6 20 (by decide) rfl fl_X6_44 (LM_ob hM) (LM_p20 hM) ?_
      refine x_iload_n (pc := 160) 3 dX6_costOf_160 rfl ?_
      refine x_iconst (pc := 161) dX6_costOf_161 ?_
      refine x_isub (pc := 162) dX6_costOf_162 ?_
      refine x_iload (pc := 163) 5 dX6_costOf_163 rfl ?_
      refine x_aload_n (pc := 165) 0 dX6_costOf_165 rfl ?_
      refine x_getP (pc := 166) dX6_costOf_166 FC6 20 (by decide) rfl fl_X6_44 (LM_ob hM) (LM_p20 hM) ?_
      refine x_iload_n (pc := 169) 3 dX6_costOf_169 rfl ?_
      refine x_iconst (pc := 170) dX6_costOf_170 ?_
      refine x_isub (pc := 171) dX6_costOf_171 ?_
      obtain ⟨hv11, h⟩ := h
      obtain ⟨hv12, h⟩ := h
      refine x_lald (pc := 172) dX6_costOf_172 (LM_a20 hM) hv11 hv12 (by decide) ?_
      refine x_aload_n (pc := 173) 0 dX6_costOf_173 rfl ?_
      refine x_getP (pc := 174) dX6_costOf_174 FC6 20 (by decide) rfl fl_X6_44 (LM_ob hM) (LM_p20 hM) ?_
      refine x_iload_n (pc := 177) 3 dX6_costOf_177 rfl ?_
      obtain ⟨hv13, h⟩ := h
      obtain ⟨hv14, h⟩ := h
      refine x_lald (pc := 178) dX6_costOf_178 (LM_a20 hM) hv13 hv14 (by decide) ?_
      refine x_Sl (μ := m_X6_costOf) (pc := 179) dX6_costOf_179 h k_X6_operate ml_X6_234 ⟨Nat.le_of_ble_eq_true rfl, Nat.le_of_ble_eq_true rfl⟩ ⟨rfl, rfl⟩ ⟨Nat.zero_le _, Nat.zero_le _⟩ rfl (Nat.le_of_ble_eq_true rfl) _ rfl (fun z15 I16 h => ?_)
      refine x_last (pc := 182) dX6_costOf_182 (LM_a20 hM) hv11 hv12 (by decide) ?_
      refine x_nmI (fun I17 eI17 => ?_)
      have h := h I17 eI17
      refine x_iinc (pc := 183) (al' := [(0, vR 1), (1, vI x1), (2, vI x2), (3, vI (x3 + (-1))), (4, vI (x4 + 1)), (5, vI u7)]) 4 dX6_costOf_183 rfl rfl rfl (Nat.le_of_ble_eq_true rfl) ?_
      refine x_goto (pc := 186) 22 dX6_costOf_186 (by decide) ?_
      exact x_sub [0, 1, 2, 3, 4] rfl h
    · have h := hB10 hc
      refine x_iinc (pc := 52) (al' := [(0, vR 1), (1, vI x1), (2, vI x2), (3, vI x3), (4, vI (x4 + 1)), (5, vI u7)]) 4 dX6_costOf_52 rfl rfl rfl (Nat.le_of_ble_eq_true rfl) ?_
      refine x_aload_n (pc := 55) 0 dX6_costOf_55 rfl ?_
      refine x_getP (pc := 56) dX6_costOf_56 FC6 8 (by decide) rfl fl_X6_17 (LM_ob hM) (LM_p8 hM) ?_
      refine x_sipush (pc := 59) dX6_costOf_59 rfl ?_
      refine x_iload (pc := 62) 4 dX6_costOf_62 rfl ?_
      refine x_iadd (pc := 64) dX6_costOf_64 ?_
      obtain ⟨hv18, h⟩ := h
      obtain ⟨hv19, h⟩ := h
      refine x_iald (pc := 65) dX6_costOf_65 (LM_a8 hM) hv18 hv19 (by decide) ?_
      refine x_nmT (fun u20 eu20 => ?_)
      have h := h u20 eu20
      refine x_istore (pc := 66) (al' := [(0, vR 1), (1, vI x1), (2, vI x2), (3, vI x3), (4, vI (x4 + 1)), (5, vI u7), (6, vI u20)]) dX6_costOf_66 rfl rfl (Nat.le_of_ble_eq_true rfl) ?_
      refine x_aload_n (pc := 68) 0 dX6_costOf_68 rfl ?_
      refine x_getP (pc := 69) dX6_costOf_69 FC6 20 (by decide) rfl fl_X6_44 (LM_ob hM) (LM_p20 hM) ?_
      refine x_iload_n (pc := 72) 3 dX6_costOf_72 rfl ?_
      refine x_iload (pc := 73) 5 dX6_costOf_73 rfl ?_
      obtain ⟨hA21, hB22⟩ := h
      refine x_if_ne (pc := 75) 84 dX6_costOf_75 (by decide) hr8 (fun hc => ?_) (fun hc => ?_)
      · have h := hA21 hc
        refine x_iload (pc := 84) 6 dX6_costOf_84 rfl ?_
        obtain ⟨hr23, h⟩ := h
        obtain ⟨hA24, hB25⟩ := h
        refine x_if_ne (pc := 86) 94 dX6_costOf_86 (by decide) hr23 (fun hc => ?_) (fun hc => ?_)
        · have h := hA24 hc
          refine x_iload (pc := 94) 6 dX6_costOf_94 rfl ?_
          refine x_iconst (pc := 96) dX6_costOf_96 ?_
          obtain ⟨hA26, hB27⟩ := h
          refine x_icmp_ne (pc := 97) 115 dX6_costOf_97 (by decide) hr23 ⟨by decide, by decide⟩ (fun hc => ?_) (fun hc => ?_)
          · have h := hA26 hc
            refine x_iload (pc := 115) 6 dX6_costOf_115 rfl ?_
            refine x_iconst (pc := 117) dX6_costOf_117 ?_
            obtain ⟨hA28, hB29⟩ := h
            refine x_icmp_ne (pc := 118) 136 dX6_costOf_118 (by decide) hr23 ⟨by decide, by decide⟩ (fun hc => ?_) (fun hc => ?_)
            · have h := hA28 hc
              refine x_aload_n (pc := 136) 0 dX6_costOf_136 rfl ?_
              refine x_getP (pc := 137) dX6_costOf_137 FC6 8 (by decide) rfl fl_X6_17 (LM_ob hM) (LM_p8 hM) ?_
              refine x_iload_n (pc := 140) 1 dX6_costOf_140 rfl ?_
              refine x_Si (μ := m_X6_costOf) (pc := 141) dX6_costOf_141 h k_X6_job ml_X6_147 ⟨Nat.le_of_ble_eq_true rfl, Nat.le_of_ble_eq_true rfl⟩ ⟨rfl, rfl⟩ ⟨Nat.zero_le _, Nat.zero_le _⟩ rfl (Nat.le_of_ble_eq_true rfl) _ rfl (fun z30 I31 h => ?_)
              obtain ⟨hv32, h⟩ := h
              obtain ⟨hv33, h⟩ := h
              refine x_iald (pc := 144) dX6_costOf_144 (LM_a8 hM) hv32 hv33 (by decide) ?_
              obtain ⟨hr34, h⟩ := h
              refine x_i2l (pc := 145) dX6_costOf_145 hr34 ?_
              obtain ⟨hv35, h⟩ := h
              obtain ⟨hv36, h⟩ := h
              refine x_last (pc := 146) dX6_costOf_146 (LM_a20 hM) hv35 hv36 (by decide) ?_
              refine x_nmI (fun I37 eI37 => ?_)
              have h := h I37 eI37
              refine x_iinc (pc := 147) (al' := [(0, vR 1), (1, vI x1), (2, vI x2), (3, vI (x3 + 1)), (4, vI (x4 + 1)), (5, vI u7), (6, vI u20)]) 3 dX6_costOf_147 rfl rfl rfl (Nat.le_of_ble_eq_true rfl) ?_
              refine x_goto (pc := 150) 183 dX6_costOf_150 (by decide) ?_
              refine x_iinc (pc := 183) (al' := [(0, vR 1), (1, vI x1), (2, vI x2), (3, vI (x3 + 1)), (4, vI ((x4 + 1) + 1)), (5, vI u7), (6, vI u20)]) 4 dX6_costOf_183 rfl rfl rfl (Nat.le_of_ble_eq_true rfl) ?_
              refine x_goto (pc := 186) 22 dX6_costOf_186 (by decide) ?_
              exact x_sub [0, 1, 2, 3, 4] rfl h
            · have h := hB29 hc
              refine x_aload_n (pc := 121) 0 dX6_costOf_121 rfl ?_
              refine x_getP (pc := 122) dX6_costOf_122 FC6 8 (by decide) rfl fl_X6_17 (LM_ob hM) (LM_p8 hM) ?_
              refine x_iload_n (pc := 125) 1 dX6_costOf_125 rfl ?_
              refine x_Si (μ := m_X6_costOf) (pc := 126) dX6_costOf_126 h k_X6_job ml_X6_147 ⟨Nat.le_of_ble_eq_true rfl, Nat.le_of_ble_eq_true rfl⟩ ⟨rfl, rfl⟩ ⟨Nat.zero_le _, Nat.zero_le _⟩ rfl (Nat.le_of_ble_eq_true rfl) _ rfl (fun z38 I39 h => ?_)
              refine x_iconst (pc := 129) dX6_costOf_129 ?_
              refine x_iadd (pc := 130) dX6_costOf_130 ?_
              obtain ⟨hv40, h⟩ := h
              obtain ⟨hv41, h⟩ := h
              refine x_iald (pc := 131) dX6_costOf_131 (LM_a8 hM) hv40 hv41 (by decide) ?_
              obtain ⟨hr42, h⟩ := h
              refine x_i2l (pc := 132) dX6_costOf_132 hr42 ?_
              refine x_goto (pc := 133) 146 dX6_costOf_133 (by decide) ?_
              obtain ⟨hv43, h⟩ := h
              obtain ⟨hv44, h⟩ := h
              refine x_last (pc := 146) dX6_costOf_146 (LM_a20 hM) hv43 hv44 (by decide) ?_
              refine x_nmI (fun I45 eI45 => ?_)
              have h := h I45 eI45
              refine x_iinc (pc := 147) (al' := [(0, vR 1), (1, vI x1), (2, vI x2), (3, vI (x3 + 1)), (4, vI (x4 + 1)), (5, vI u7), (6, vI u20)]) 3 dX6_costOf_147 rfl rfl rfl (Nat.le_of_ble_eq_true rfl) ?_
              refine x_goto (pc := 150) 183 dX6_costOf_150 (by decide) ?_
              refine x_iinc (pc := 183) (al' := [(0, vR 1), (1, vI x1), (2, vI x2), (3, vI (x3 + 1)), (4, vI ((x4 + 1) + 1)), (5, vI u7), (6, vI u20)]) 4 dX6_costOf_183 rfl rfl rfl (Nat.le_of_ble_eq_true rfl) ?_
              refine x_goto (pc := 186) 22 dX6_costOf_186 (by decide) ?_
              exact x_sub [0, 1, 2, 3, 4] rfl h
          · have h := hB27 hc
            refine x_aload_n (pc := 100) 0 dX6_costOf_100 rfl ?_
            refine x_getP (pc := 101) dX6_costOf_101 FC6 8 (by decide) rfl fl_X6_17 (LM_ob hM) (LM_p8 hM) ?_
            refine x_iload_n (pc := 104) 1 dX6_costOf_104 rfl ?_
            refine x_Si (μ := m_X6_costOf) (pc := 105) dX6_costOf_105 h k_X6_job ml_X6_147 ⟨Nat.le_of_ble_eq_true rfl, Nat.le_of_ble_eq_true rfl⟩ ⟨rfl, rfl⟩ ⟨Nat.zero_le _, Nat.zero_le _⟩ rfl (Nat.le_of_ble_eq_true rfl) _ rfl (fun z46 I47 h => ?_)
            refine x_iconst (pc := 108) dX6_costOf_108 ?_
            refine x_iadd (pc := 109) dX6_costOf_109 ?_
            obtain ⟨hv48, h⟩ := h
            obtain ⟨hv49, h⟩ := h
            refine x_iald (pc := 110) dX6_costOf_110 (LM_a8 hM) hv48 hv49 (by decide) ?_
            obtain ⟨hr50, h⟩ := h
            refine x_i2l (pc := 111) dX6_costOf_111 hr50 ?_
            refine x_goto (pc := 112) 146 dX6_costOf_112 (by decide) ?_
            obtain ⟨hv51, h⟩ := h
            obtain ⟨hv52, h⟩ := h
            refine x_last (pc := 146) dX6_costOf_146 (LM_a20 hM) hv51 hv52 (by decide) ?_
            refine x_nmI (fun I53 eI53 => ?_)
            have h := h I53 eI53
            refine x_iinc (pc := 147) (al' := [(0, vR 1), (1, vI x1), (2, vI x2), (3, vI (x3 + 1)), (4, vI (x4 + 1)), (5, vI u7), (6, vI u20)]) 3 dX6_costOf_147 rfl rfl rfl (Nat.le_of_ble_eq_true rfl) ?_
            refine x_goto (pc := 150) 183 dX6_costOf_150 (by decide) ?_
            refine x_iinc (pc := 183) (al' := [(0, vR 1), (1, vI x1), (2, vI x2), (3, vI (x3 + 1)), (4, vI ((x4 + 1) + 1)), (5, vI u7), (6, vI u20)]) 4 dX6_costOf_183 rfl rfl rfl (Nat.le_of_ble_eq_true rfl) ?_
            refine x_goto (pc := 186) 22 dX6_costOf_186 (by decide) ?_
            exact x_sub [0, 1, 2, 3, 4] rfl h
        · have h := hB25 hc
          refine x_iload_n (pc := 89) 2 dX6_costOf_89 rfl ?_
          obtain ⟨hr54, h⟩ := h
          refine x_i2l (pc := 90) dX6_costOf_90 hr54 ?_
          refine x_goto (pc := 91) 146 dX6_costOf_91 (by decide) ?_
          obtain ⟨hv55, h⟩ := h
          obtain ⟨hv56, h⟩ := h
          refine x_last (pc := 146) dX6_costOf_146 (LM_a20 hM) hv55 hv56 (by decide) ?_
          refine x_nmI (fun I57 eI57 => ?_)
          have h := h I57 eI57
          refine x_iinc (pc := 147) (al' := [(0, vR 1), (1, vI x1), (2, vI x2), (3, vI (x3 + 1)), (4, vI (x4 + 1)), (5, vI u7), (6, vI u20)]) 3 dX6_costOf_147 rfl rfl rfl (Nat.le_of_ble_eq_true rfl) ?_
          refine x_goto (pc := 150) 183 dX6_costOf_150 (by decide) ?_
          refine x_iinc (pc := 183) (al' := [(0, vR 1), (1, vI x1), (2, vI x2), (3, vI (x3 + 1)), (4, vI ((x4 + 1) + 1)), (5, vI u7), (6, vI u20)]) 4 dX6_costOf_183 rfl rfl rfl (Nat.le_of_ble_eq_true rfl) ?_
          refine x_goto (pc := 186) 22 dX6_costOf_186 (by decide) ?_
          exact x_sub [0, 1, 2, 3, 4] rfl h
      · have h := hB22 hc
        refine x_iload (pc := 78) 6 dX6_costOf_78 rfl ?_
        obtain ⟨hr58, h⟩ := h
        refine x_i2l (pc := 80) dX6_costOf_80 hr58 ?_
        refine x_goto (pc := 81) 146 dX6_costOf_81 (by decide) ?_
        obtain ⟨hv59, h⟩ := h
        obtain ⟨hv60, h⟩ := h
        refine x_last (pc := 146) dX6_costOf_146 (LM_a20 hM) hv59 hv60 (by decide) ?_
        refine x_nmI (fun I61 eI61 => ?_)
        have h := h I61 eI61
        refine x_iinc (pc := 147) (al' := [(0, vR 1), (1, vI x1), (2, vI x2), (3, vI (x3 + 1)), (4, vI (x4 + 1)), (5, vI u7), (6, vI u20)]) 3 dX6_costOf_147 rfl rfl rfl (Nat.le_of_ble_eq_true rfl) ?_
        refine x_goto (pc := 150) 183 dX6_costOf_150 (by decide) ?_
        refine x_iinc (pc := 183) (al' := [(0, vR 1), (1, vI x1), (2, vI x2), (3, vI (x3 + 1)), (4, vI ((x4 + 1) + 1)), (5, vI u7), (6, vI u20)]) 4 dX6_costOf_183 rfl rfl rfl (Nat.le_of_ble_eq_true rfl) ?_
        refine x_goto (pc := 186) 22 dX6_costOf_186 (by decide) ?_
        exact x_sub [0, 1, 2, 3, 4] rfl h
set_option maxRecDepth 100000 in
set_option maxHeartbeats 4000000 in
theorem t_X6_costOfPlan_0 {Γ : GG} {P : MP} {I : MM} {R : Int → MM → Prop} (hM : LM Γ P)
    (h : XM Γ m_X6_costOfPlan 0 0 4 [(0, vR 1), (1, vI 0), (2, vI 0)] [] P I (ri P R)) :
    XM Γ m_X6_costOfPlan 0 0 0 [(0, vR 1)] [] P I (ri P R) := by
  refine x_iconst (pc := 0) dX6_costOfPlan_0 ?_
  refine x_istore_n (pc := 1) (al' := [(0, vR 1), (1, vI 0)]) dX6_costOfPlan_1 rfl rfl (Nat.le_of_ble_eq_true rfl) ?_
  refine x_iconst (pc := 2) dX6_costOfPlan_2 ?_
  refine x_istore_n (pc := 3) (al' := [(0, vR 1), (1, vI 0), (2, vI 0)]) dX6_costOfPlan_3 rfl rfl (Nat.le_of_ble_eq_true rfl) ?_
  exact x_sub [0, 1, 2] rfl h
set_option maxRecDepth 100000 in
set_option maxHeartbeats 4000000 in
theorem t_X6_costOfPlan_4 {Γ : GG} {P : MP} {I : MM} {R : Int → MM → Prop} {x1 x2 : Int} (hM : LM Γ P)
    (h : (inR x2) ∧ (inR (I 3 2)) ∧ (((I 3 2) ≤ x2 → R x1 I) ∧ (¬ (I 3 2) ≤ x2 → (Cl Γ m_X6_costOf [vR 1, vI x2] P I (ri P (fun (z5 : Int) (I6 : MM) => (∀ u7 : Int, u7 = (x1 + z5) → XM Γ m_X6_costOfPlan 0 0 4 [(0, vR 1), (1, vI u7), (2, vI (x2 + 1))] [] P I6 (ri P R)))))))) :
    XM Γ m_X6_costOfPlan 0 0 4 [(0, vR 1), (1, vI x1), (2, vI x2)] [] P I (ri P R) := by
  refine x_iload_n (pc := 4) 2 dX6_costOfPlan_4 rfl ?_
  refine x_aload_n (pc := 5) 0 dX6_costOfPlan_5 rfl ?_
  refine x_getP (pc := 6) dX6_costOfPlan_6 FC6 8 (by decide) rfl fl_X6_17 (LM_ob hM) (LM_p8 hM) ?_
  refine x_iconst (pc := 9) dX6_costOfPlan_9 ?_
  refine x_iald (pc := 10) dX6_costOfPlan_10 (LM_a8 hM) (by decide) (by decide) (by decide) ?_
  obtain ⟨hr1, h⟩ := h
  obtain ⟨hr2, h⟩ := h
  obtain ⟨hA3, hB4⟩ := h
  refine x_icmp_ge (pc := 11) 28 dX6_costOfPlan_11 (by decide) hr1 hr2 (fun hc => ?_) (fun hc => ?_)
  · have h := hA3 hc
    refine x_iload_n (pc := 28) 1 dX6_costOfPlan_28 rfl ?_
    exact x_iret (pc := 29) dX6_costOfPlan_29 rfl (Nat.le_refl _) (Nat.le_refl _) ⟨_, rfl, rfl, h⟩
  · have h := hB4 hc
    refine x_iload_n (pc := 14) 1 dX6_costOfPlan_14 rfl ?_
    refine x_aload_n (pc := 15) 0 dX6_costOfPlan_15 rfl ?_
    refine x_iload_n (pc := 16) 2 dX6_costOfPlan_16 rfl ?_
    refine x_Vi (μ := m_X6_costOfPlan) (pc := 17) dX6_costOfPlan_17 h k_X6_costOf ml_X6_238 ⟨Nat.le_of_ble_eq_true rfl, Nat.le_of_ble_eq_true rfl⟩ ⟨rfl, rfl⟩ ⟨Nat.zero_le _, Nat.zero_le _⟩ rfl (LM_ob hM) rfl (Nat.le_of_ble_eq_true rfl) _ rfl (fun z5 I6 h => ?_)
    refine x_iadd (pc := 20) dX6_costOfPlan_20 ?_
    refine x_nmT (fun u7 eu7 => ?_)
    have h := h u7 eu7
    refine x_istore_n (pc := 21) (al' := [(0, vR 1), (1, vI u7), (2, vI x2)]) dX6_costOfPlan_21 rfl rfl (Nat.le_of_ble_eq_true rfl) ?_
    refine x_iinc (pc := 22) (al' := [(0, vR 1), (1, vI u7), (2, vI (x2 + 1))]) 2 dX6_costOfPlan_22 rfl rfl rfl (Nat.le_of_ble_eq_true rfl) ?_
    refine x_goto (pc := 25) 4 dX6_costOfPlan_25 (by decide) ?_
    exact x_sub [0, 1, 2] rfl h
set_option maxRecDepth 100000 in
set_option maxHeartbeats 4000000 in
theorem t_X6_leaveOf_0 {Γ : GG} {P : MP} {I : MM} {R : Int → MM → Prop} {x1 : Int} (hM : LM Γ P)
    (h : (Cl Γ m_X6_isBlocking [vR 1, vI x1] P I (ri P (fun (z1 : Int) (I2 : MM) => (inR z1) ∧ ((z1 = 0 → (0 ≤ x1) ∧ (x1 < 36) ∧ (Cl Γ m_X6_durationOf [vR 1, vI x1] P I2 (ri P (fun (z8 : Int) (I9 : MM) => R ((I2 9 (x1).toNat) + z8) I9)))) ∧ (¬ z1 = 0 → (0 ≤ (x1 + 1)) ∧ ((x1 + 1) < 36) ∧ R (I2 9 ((x1 + 1)).toNat) I2)))))) :
    XM Γ m_X6_leaveOf 0 0 0 [(0, vR 1), (1, vI x1)] [] P I (ri P R) := by
  refine x_aload_n (pc := 0) 0 dX6_leaveOf_0 rfl ?_
  refine x_iload_n (pc := 1) 1 dX6_leaveOf_1 rfl ?_
  refine x_Vi (μ := m_X6_leaveOf) (pc := 2) dX6_leaveOf_2 h k_X6_isBlocking ml_X6_199 ⟨Nat.le_of_ble_eq_true rfl, Nat.le_of_ble_eq_true rfl⟩ ⟨rfl, rfl⟩ ⟨Nat.zero_le _, Nat.zero_le _⟩ rfl (LM_ob hM) rfl (Nat.le_of_ble_eq_true rfl) _ rfl (fun z1 I2 h => ?_)
  obtain ⟨hr3, h⟩ := h
  obtain ⟨hA4, hB5⟩ := h
  refine x_if_eq (pc := 5) 19 dX6_leaveOf_5 (by decide) hr3 (fun hc => ?_) (fun hc => ?_)
  · have h := hA4 hc
    refine x_aload_n (pc := 19) 0 dX6_leaveOf_19 rfl ?_
    refine x_getP (pc := 20) dX6_leaveOf_20 FC6 18 (by decide) rfl fl_X6_37 (LM_ob hM) (LM_p18 hM) ?_
    refine x_iload_n (pc := 23) 1 dX6_leaveOf_23 rfl ?_
    obtain ⟨hv6, h⟩ := h
    obtain ⟨hv7, h⟩ := h
    refine x_iald (pc := 24) dX6_leaveOf_24 (LM_a18 hM) hv6 hv7 (by decide) ?_
    refine x_aload_n (pc := 25) 0 dX6_leaveOf_25 rfl ?_
    refine x_iload_n (pc := 26) 1 dX6_leaveOf_26 rfl ?_
    refine x_Vi (μ := m_X6_leaveOf) (pc := 27) dX6_leaveOf_27 h k_X6_durationOf ml_X6_202 ⟨Nat.le_of_ble_eq_true rfl, Nat.le_of_ble_eq_true rfl⟩ ⟨rfl, rfl⟩ ⟨Nat.zero_le _, Nat.zero_le _⟩ rfl (LM_ob hM) rfl (Nat.le_of_ble_eq_true rfl) _ rfl (fun z8 I9 h => ?_)
    refine x_iadd (pc := 30) dX6_leaveOf_30 ?_
    exact x_iret (pc := 31) dX6_leaveOf_31 rfl (Nat.le_refl _) (Nat.le_refl _) ⟨_, rfl, rfl, h⟩
  · have h := hB5 hc
    refine x_aload_n (pc := 8) 0 dX6_leaveOf_8 rfl ?_
    refine x_getP (pc := 9) dX6_leaveOf_9 FC6 18 (by decide) rfl fl_X6_37 (LM_ob hM) (LM_p18 hM) ?_
    refine x_iload_n (pc := 12) 1 dX6_leaveOf_12 rfl ?_
    refine x_iconst (pc := 13) dX6_leaveOf_13 ?_
    refine x_iadd (pc := 14) dX6_leaveOf_14 ?_
    obtain ⟨hv10, h⟩ := h
    obtain ⟨hv11, h⟩ := h
    refine x_iald (pc := 15) dX6_leaveOf_15 (LM_a18 hM) hv10 hv11 (by decide) ?_
    refine x_goto (pc := 16) 31 dX6_leaveOf_16 (by decide) ?_
    exact x_iret (pc := 31) dX6_leaveOf_31 rfl (Nat.le_refl _) (Nat.le_refl _) ⟨_, rfl, rfl, h⟩
set_option maxRecDepth 100000 in
set_option maxHeartbeats 4000000 in
theorem t_X6_exchange_0 {Γ : GG} {P : MP} {I : MM} {R : MM → Prop} {x1 x2 : Int} (hM : LM Γ P)
    (h : (Cl Γ m_X6_machine [vI x1] P I (ri P (fun (z1 : Int) (I2 : MM) => (∀ u3 : Int, u3 = ((z1 + 3) + x2) → (0 ≤ u3) ∧ (u3 < 1655) ∧ (∀ u6 : Int, u6 = (I2 3 (u3).toNat) → (0 ≤ (u3 + 1)) ∧ ((u3 + 1) < 1655) ∧ (∀ I9 : MM, I9 = up2 I2 3 (u3).toNat (I2 3 ((u3 + 1)).toNat) → (∀ I10 : MM, I10 = up2 I9 3 ((u3 + 1)).toNat u6 → R I10)))))))) :
    XM Γ m_X6_exchange 0 0 0 [(0, vR 1), (1, vI x1), (2, vI x2)] [] P I (rv P R) := by
  refine x_iload_n (pc := 0) 1 dX6_exchange_0 rfl ?_
  refine x_Si (μ := m_X6_exchange) (pc := 1) dX6_exchange_1 h k_X6_machine ml_X6_158 ⟨Nat.le_of_ble_eq_true rfl, Nat.le_of_ble_eq_true rfl⟩ ⟨rfl, rfl⟩ ⟨Nat.zero_le _, Nat.zero_le _⟩ rfl (Nat.le_of_ble_eq_true rfl) _ rfl (fun z1 I2 h => ?_)
  refine x_iconst (pc := 4) dX6_exchange_4 ?_
  refine x_iadd (pc := 5) dX6_exchange_5 ?_
  refine x_iload_n (pc := 6) 2 dX6_exchange_6 rfl ?_
  refine x_iadd (pc := 7) dX6_exchange_7 ?_
  refine x_nmT (fun u3 eu3 => ?_)
  have h := h u3 eu3
  refine x_istore_n (pc := 8) (al' := [(0, vR 1), (1, vI x1), (2, vI x2), (3, vI u3)]) dX6_exchange_8 rfl rfl (Nat.le_of_ble_eq_true rfl) ?_
  refine x_aload_n (pc := 9) 0 dX6_exchange_9 rfl ?_
  refine x_getP (pc := 10) dX6_exchange_10 FC6 8 (by decide) rfl fl_X6_17 (LM_ob hM) (LM_p8 hM) ?_
  refine x_iload_n (pc := 13) 3 dX6_exchange_13 rfl ?_
  obtain ⟨hv4, h⟩ := h
  obtain ⟨hv5, h⟩ := h
  refine x_iald (pc := 14) dX6_exchange_14 (LM_a8 hM) hv4 hv5 (by decide) ?_
  refine x_nmT (fun u6 eu6 => ?_)
  have h := h u6 eu6
  refine x_istore (pc := 15) (al' := [(0, vR 1), (1, vI x1), (2, vI x2), (3, vI u3), (4, vI u6)]) dX6_exchange_15 rfl rfl (Nat.le_of_ble_eq_true rfl) ?_
  refine x_aload_n (pc := 17) 0 dX6_exchange_17 rfl ?_
  refine x_getP (pc := 18) dX6_exchange_18 FC6 8 (by decide) rfl fl_X6_17 (LM_ob hM) (LM_p8 hM) ?_
  refine x_iload_n (pc := 21) 3 dX6_exchange_21 rfl ?_
  refine x_aload_n (pc := 22) 0 dX6_exchange_22 rfl ?_
  refine x_getP (pc := 23) dX6_exchange_23 FC6 8 (by decide) rfl fl_X6_17 (LM_ob hM) (LM_p8 hM) ?_
  refine x_iload_n (pc := 26) 3 dX6_exchange_26 rfl ?_
  refine x_iconst (pc := 27) dX6_exchange_27 ?_
  refine x_iadd (pc := 28) dX6_exchange_28 ?_
  obtain ⟨hv7, h⟩ := h
  obtain ⟨hv8, h⟩ := h
  refine x_iald (pc := 29) dX6_exchange_29 (LM_a8 hM) hv7 hv8 (by decide) ?_
  refine x_iast (pc := 30) dX6_exchange_30 (LM_a8 hM) hv4 hv5 (by decide) ?_
  refine x_nmI (fun I9 eI9 => ?_)
  have h := h I9 eI9
  refine x_aload_n (pc := 31) 0 dX6_exchange_31 rfl ?_
  refine x_getP (pc := 32) dX6_exchange_32 FC6 8 (by decide) rfl fl_X6_17 (LM_ob hM) (LM_p8 hM) ?_
  refine x_iload_n (pc := 35) 3 dX6_exchange_35 rfl ?_
  refine x_iconst (pc := 36) dX6_exchange_36 ?_
  refine x_iadd (pc := 37) dX6_exchange_37 ?_
  refine x_iload (pc := 38) 4 dX6_exchange_38 rfl ?_
  refine x_iast (pc := 40) dX6_exchange_40 (LM_a8 hM) hv7 hv8 (by decide) ?_
  refine x_nmI (fun I10 eI10 => ?_)
  have h := h I10 eI10
  exact x_vret (pc := 41) dX6_exchange_41 rfl (Nat.le_refl _) (Nat.le_refl _) ⟨rfl, rfl, h⟩
