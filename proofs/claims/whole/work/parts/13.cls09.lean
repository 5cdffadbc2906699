set_option maxRecDepth 100000 in
set_option maxHeartbeats 4000000 in
theorem t_X5_critical_0 {Γ : GG} {P : MP} {I : MM} {R : Int → MM → Prop} {x1 : Int} {σ κ n σ2 κ2 n2 : Nat} (hb : LBS Γ P σ κ n σ2 κ2 n2)
    (h : (Cl Γ m_X2_traceCriticalPath [vR 40] P I (rv P (fun (I1 : MM) => (inR x1) ∧ ((x1 < 0 → False) ∧ (¬ x1 < 0 → (inR (I1 40 6)) ∧ ((x1 < (I1 40 6) → (0 ≤ x1) ∧ (x1 < 36) ∧ (Cl Γ m_X5_codeOf [vI (I1 (40 + 5) (x1).toNat)] P I1 (ri P (fun (z10 : Int) (I11 : MM) => R z10 I11)))) ∧ (¬ x1 < (I1 40 6) → False)))))))) :
    XM Γ m_X5_critical 0 0 0 [(0, vR 30), (1, vI x1)] [] P I (ri P R) := by
  refine x_aload_n (pc := 0) 0 dX5_critical_0 rfl ?_
  refine x_getP (pc := 1) dX5_critical_1 FC5 3 (by decide) rfl fl_X5_43 (LBS_ob hb) (LBS_p3 hb) ?_
  refine x_Vv (μ := m_X5_critical) (pc := 4) dX5_critical_4 h k_X2_traceCriticalPath ml_X5_168 ⟨Nat.le_of_ble_eq_true rfl, Nat.le_of_ble_eq_true rfl⟩ ⟨rfl, rfl⟩ ⟨Nat.zero_le _, Nat.zero_le _⟩ rfl (LSch_ob (LBS_s hb)) rfl (Nat.le_of_ble_eq_true rfl) _ rfl (fun I1 h => ?_)
  refine x_iload_n (pc := 7) 1 dX5_critical_7 rfl ?_
  obtain ⟨hr2, h⟩ := h
  obtain ⟨hA3, hB4⟩ := h
  refine x_if_lt (pc := 8) 22 dX5_critical_8 (by decide) hr2 (fun hc => ?_) (fun hc => ?_)
  · have h := hA3 hc
    exact h.elim
  · have h := hB4 hc
    refine x_iload_n (pc := 11) 1 dX5_critical_11 rfl ?_
    refine x_aload_n (pc := 12) 0 dX5_critical_12 rfl ?_
    refine x_getP (pc := 13) dX5_critical_13 FC5 3 (by decide) rfl fl_X5_43 (LBS_ob hb) (LBS_p3 hb) ?_
    refine x_getI (pc := 16) dX5_critical_16 FC2 6 (by decide) rfl fl_X5_171 (LSch_ob (LBS_s hb)) ?_
    obtain ⟨hr5, h⟩ := h
    obtain ⟨hA6, hB7⟩ := h
    refine x_icmp_lt (pc := 19) 32 dX5_critical_19 (by decide) hr2 hr5 (fun hc => ?_) (fun hc => ?_)
    · have h := hA6 hc
      refine x_aload_n (pc := 32) 0 dX5_critical_32 rfl ?_
      refine x_getP (pc := 33) dX5_critical_33 FC5 3 (by decide) rfl fl_X5_43 (LBS_ob hb) (LBS_p3 hb) ?_
      refine x_getP (pc := 36) dX5_critical_36 FC2 5 (by decide) rfl fl_X5_179 (LSch_ob (LBS_s hb)) (LSch_p5 (LBS_s hb)) ?_
      refine x_iload_n (pc := 39) 1 dX5_critical_39 rfl ?_
      obtain ⟨hv8, h⟩ := h
      obtain ⟨hv9, h⟩ := h
      refine x_iald (pc := 40) dX5_critical_40 (LSch_a5 (LBS_s hb)) hv8 hv9 (by decide) ?_
      refine x_Si (μ := m_X5_critical) (pc := 41) dX5_critical_41 h k_X5_codeOf ml_X5_143 ⟨Nat.le_of_ble_eq_true rfl, Nat.le_of_ble_eq_true rfl⟩ ⟨rfl, rfl⟩ ⟨Nat.zero_le _, Nat.zero_le _⟩ rfl (Nat.le_of_ble_eq_true rfl) _ rfl (fun z10 I11 h => ?_)
      exact x_iret (pc := 44) dX5_critical_44 rfl (Nat.le_refl _) (Nat.le_refl _) ⟨_, rfl, rfl, h⟩
    · have h := hB7 hc
      exact h.elim
set_option maxRecDepth 100000 in
set_option maxHeartbeats 4000000 in
theorem t_X5_blockCount_0 {Γ : GG} {P : MP} {I : MM} {R : Int → MM → Prop} {σ κ n σ2 κ2 n2 : Nat} (hb : LBS Γ P σ κ n σ2 κ2 n2)
    (h : (Cl Γ m_X2_traceCriticalPath [vR 40] P I (rv P (fun (I1 : MM) => XM Γ m_X5_blockCount 0 0 11 [(0, vR 30), (1, vI 0), (2, vI 0)] [] P I1 (ri P R))))) :
    XM Γ m_X5_blockCount 0 0 0 [(0, vR 30)] [] P I (ri P R) := by
  refine x_aload_n (pc := 0) 0 dX5_blockCount_0 rfl ?_
  refine x_getP (pc := 1) dX5_blockCount_1 FC5 3 (by decide) rfl fl_X5_43 (LBS_ob hb) (LBS_p3 hb) ?_
  refine x_Vv (μ := m_X5_blockCount) (pc := 4) dX5_blockCount_4 h k_X2_traceCriticalPath ml_X5_168 ⟨Nat.le_of_ble_eq_true rfl, Nat.le_of_ble_eq_true rfl⟩ ⟨rfl, rfl⟩ ⟨Nat.zero_le _, Nat.zero_le _⟩ rfl (LSch_ob (LBS_s hb)) rfl (Nat.le_of_ble_eq_true rfl) _ rfl (fun I1 h => ?_)
  refine x_iconst (pc := 7) dX5_blockCount_7 ?_
  refine x_istore_n (pc := 8) (al' := [(0, vR 30), (1, vI 0)]) dX5_blockCount_8 rfl rfl (Nat.le_of_ble_eq_true rfl) ?_
  refine x_iconst (pc := 9) dX5_blockCount_9 ?_
  refine x_istore_n (pc := 10) (al' := [(0, vR 30), (1, vI 0), (2, vI 0)]) dX5_blockCount_10 rfl rfl (Nat.le_of_ble_eq_true rfl) ?_
  exact x_sub [0, 1, 2] rfl h
set_option maxRecDepth 100000 in
set_option maxHeartbeats 4000000 in
theorem t_X5_blockCount_11 {Γ : GG} {P : MP} {I : MM} {R : Int → MM → Prop} {x1 x2 : Int} {σ κ n σ2 κ2 n2 : Nat} (hb : LBS Γ P σ κ n σ2 κ2 n2)
    (h : (inR x2) ∧ (inR (I 40 6)) ∧ (((I 40 6) ≤ x2 → R x1 I) ∧ (¬ (I 40 6) ≤ x2 → (Cl Γ m_X2_continuesBlock [vR 40, vI x2] P I (ri P (fun (z5 : Int) (I6 : MM) => (inR z5) ∧ ((z5 ≠ 0 → XM Γ m_X5_blockCount 0 0 11 [(0, vR 30), (1, vI x1), (2, vI (x2 + 1))] [] P I6 (ri P R)) ∧ (z5 = 0 → XM Γ m_X5_blockCount 0 0 11 [(0, vR 30), (1, vI (x1 + 1)), (2, vI (x2 + 1))] [] P I6 (ri P R))))))))) :
    XM Γ m_X5_blockCount 0 0 11 [(0, vR 30), (1, vI x1), (2, vI x2)] [] P I (ri P R) := by
  refine x_iload_n (pc := 11) 2 dX5_blockCount_11 rfl ?_
  refine x_aload_n (pc := 12) 0 dX5_blockCount_12 rfl ?_
  refine x_getP (pc := 13) dX5_blockCount_13 FC5 3 (by decide) rfl fl_X5_43 (LBS_ob hb) (LBS_p3 hb) ?_
  refine x_getI (pc := 16) dX5_blockCount_16 FC2 6 (by decide) rfl fl_X5_171 (LSch_ob (LBS_s hb)) ?_
  obtain ⟨hr1, h⟩ := h
  obtain ⟨hr2, h⟩ := h
  obtain ⟨hA3, hB4⟩ := h
  refine x_icmp_ge (pc := 19) 42 dX5_blockCount_19 (by decide) hr1 hr2 (fun hc => ?_) (fun hc => ?_)
  · have h := hA3 hc
    refine x_iload_n (pc := 42) 1 dX5_blockCount_42 rfl ?_
    exact x_iret (pc := 43) dX5_blockCount_43 rfl (Nat.le_refl _) (Nat.le_refl _) ⟨_, rfl, rfl, h⟩
  · have h := hB4 hc
    refine x_aload_n (pc := 22) 0 dX5_blockCount_22 rfl ?_
    refine x_getP (pc := 23) dX5_blockCount_23 FC5 3 (by decide) rfl fl_X5_43 (LBS_ob hb) (LBS_p3 hb) ?_
    refine x_iload_n (pc := 26) 2 dX5_blockCount_26 rfl ?_
    refine x_Vi (μ := m_X5_blockCount) (pc := 27) dX5_blockCount_27 h k_X2_continuesBlock ml_X5_182 ⟨Nat.le_of_ble_eq_true rfl, Nat.le_of_ble_eq_true rfl⟩ ⟨rfl, rfl⟩ ⟨Nat.zero_le _, Nat.zero_le _⟩ rfl (LSch_ob (LBS_s hb)) rfl (Nat.le_of_ble_eq_true rfl) _ rfl (fun z5 I6 h => ?_)
    obtain ⟨hr7, h⟩ := h
    obtain ⟨hA8, hB9⟩ := h
    refine x_if_ne (pc := 30) 36 dX5_blockCount_30 (by decide) hr7 (fun hc => ?_) (fun hc => ?_)
    · have h := hA8 hc
      refine x_iinc (pc := 36) (al' := [(0, vR 30), (1, vI x1), (2, vI (x2 + 1))]) 2 dX5_blockCount_36 rfl rfl rfl (Nat.le_of_ble_eq_true rfl) ?_
      refine x_goto (pc := 39) 11 dX5_blockCount_39 (by decide) ?_
      exact x_sub [0, 1, 2] rfl h
    · have h := hB9 hc
      refine x_iinc (pc := 33) (al' := [(0, vR 30), (1, vI (x1 + 1)), (2, vI x2)]) 1 dX5_blockCount_33 rfl rfl rfl (Nat.le_of_ble_eq_true rfl) ?_
      refine x_iinc (pc := 36) (al' := [(0, vR 30), (1, vI (x1 + 1)), (2, vI (x2 + 1))]) 2 dX5_blockCount_36 rfl rfl rfl (Nat.le_of_ble_eq_true rfl) ?_
      refine x_goto (pc := 39) 11 dX5_blockCount_39 (by decide) ?_
      exact x_sub [0, 1, 2] rfl h
set_option maxRecDepth 100000 in
set_option maxHeartbeats 4000000 in
theorem t_X5_longestBlock_0 {Γ : GG} {P : MP} {I : MM} {R : Int → MM → Prop} {σ κ n σ2 κ2 n2 : Nat} (hb : LBS Γ P σ κ n σ2 κ2 n2)
    (h : (Cl Γ m_X2_traceCriticalPath [vR 40] P I (rv P (fun (I1 : MM) => XM Γ m_X5_longestBlock 0 0 13 [(0, vR 30), (1, vI 0), (2, vI 0), (3, vI 0)] [] P I1 (ri P R))))) :
    XM Γ m_X5_longestBlock 0 0 0 [(0, vR 30)] [] P I (ri P R) := by
  refine x_aload_n (pc := 0) 0 dX5_longestBlock_0 rfl ?_
  refine x_getP (pc := 1) dX5_longestBlock_1 FC5 3 (by decide) rfl fl_X5_43 (LBS_ob hb) (LBS_p3 hb) ?_
  refine x_Vv (μ := m_X5_longestBlock) (pc := 4) dX5_longestBlock_4 h k_X2_traceCriticalPath ml_X5_168 ⟨Nat.le_of_ble_eq_true rfl, Nat.le_of_ble_eq_true rfl⟩ ⟨rfl, rfl⟩ ⟨Nat.zero_le _, Nat.zero_le _⟩ rfl (LSch_ob (LBS_s hb)) rfl (Nat.le_of_ble_eq_true rfl) _ rfl (fun I1 h => ?_)
  refine x_iconst (pc := 7) dX5_longestBlock_7 ?_
  refine x_istore_n (pc := 8) (al' := [(0, vR 30), (1, vI 0)]) dX5_longestBlock_8 rfl rfl (Nat.le_of_ble_eq_true rfl) ?_
  refine x_iconst (pc := 9) dX5_longestBlock_9 ?_
  refine x_istore_n (pc := 10) (al' := [(0, vR 30), (1, vI 0), (2, vI 0)]) dX5_longestBlock_10 rfl rfl (Nat.le_of_ble_eq_true rfl) ?_
  refine x_iconst (pc := 11) dX5_longestBlock_11 ?_
  refine x_istore_n (pc := 12) (al' := [(0, vR 30), (1, vI 0), (2, vI 0), (3, vI 0)]) dX5_longestBlock_12 rfl rfl (Nat.le_of_ble_eq_true rfl) ?_
  exact x_sub [0, 1, 2, 3] rfl h
set_option maxRecDepth 100000 in
set_option maxHeartbeats 4000000 in
theorem t_X5_longestBlock_13 {Γ : GG} {P : MP} {I : MM} {R : Int → MM → Prop} {x1 x2 x3 : Int} {σ κ n σ2 κ2 n2 : Nat} (hb : LBS Γ P σ κ n σ2 κ2 n2)
    (h : (inR x3) ∧ (inR (I 40 6)) ∧ (((I 40 6) ≤ x3 → R x1 I) ∧ (¬ (I 40 6) ≤ x3 → (Cl Γ m_X2_continuesBlock [vR 40, vI x3] P I (ri P (fun (z5 : Int) (I6 : MM) => (inR z5) ∧ ((z5 = 0 → (inR x1) ∧ (∀ u11 : Int, u11 = (max x1 1) → XM Γ m_X5_longestBlock 0 0 13 [(0, vR 30), (1, vI u11), (2, vI 1), (3, vI (x3 + 1))] [] P I6 (ri P R))) ∧ (¬ z5 = 0 → (∀ u12 : Int, u12 = (x2 + 1) → (inR x1) ∧ (inR u12) ∧ (∀ u15 : Int, u15 = (max x1 u12) → XM Γ m_X5_longestBlock 0 0 13 [(0, vR 30), (1, vI u15), (2, vI u12), (3, vI (x3 + 1))] [] P I6 (ri P R))))))))))) :
    XM Γ m_X5_longestBlock 0 0 13 [(0, vR 30), (1, vI x1), (2, vI x2), (3, vI x3)] [] P I (ri P R) := by
  refine x_iload_n (pc := 13) 3 dX5_longestBlock_13 rfl ?_
  refine x_aload_n (pc := 14) 0 dX5_longestBlock_14 rfl ?_
  refine x_getP (pc := 15) dX5_longestBlock_15 FC5 3 (by decide) rfl fl_X5_43 (LBS_ob hb) (LBS_p3 hb) ?_
  refine x_getI (pc := 18) dX5_longestBlock_18 FC2 6 (by decide) rfl fl_X5_171 (LSch_ob (LBS_s hb)) ?_
  obtain ⟨hr1, h⟩ := h
  obtain ⟨hr2, h⟩ := h
  obtain ⟨hA3, hB4⟩ := h
  refine x_icmp_ge (pc := 21) 55 dX5_longestBlock_21 (by decide) hr1 hr2 (fun hc => ?_) (fun hc => ?_)
  · have h := hA3 hc
    refine x_iload_n (pc := 55) 1 dX5_longestBlock_55 rfl ?_
    exact x_iret (pc := 56) dX5_longestBlock_56 rfl (Nat.le_refl _) (Nat.le_refl _) ⟨_, rfl, rfl, h⟩
  · have h := hB4 hc
    refine x_aload_n (pc := 24) 0 dX5_longestBlock_24 rfl ?_
    refine x_getP (pc := 25) dX5_longestBlock_25 FC5 3 (by decide) rfl fl_X5_43 (LBS_ob hb) (LBS_p3 hb) ?_
    refine x_iload_n (pc := 28) 3 dX5_longestBlock_28 rfl ?_
    refine x_Vi (μ := m_X5_longestBlock) (pc := 29) dX5_longestBlock_29 h k_X2_continuesBlock ml_X5_182 ⟨Nat.le_of_ble_eq_true rfl, Nat.le_of_ble_eq_true rfl⟩ ⟨rfl, rfl⟩ ⟨Nat.zero_le _, Nat.zero_le _⟩ rfl (LSch_ob (LBS_s hb)) rfl (Nat.le_of_ble_eq_true rfl) _ rfl (fun z5 I6 h => ?_)
    obtain ⟨hr7, h⟩ := h
    obtain ⟨hA8, hB9⟩ := h
    refine x_if_eq (pc := 32) 41 dX5_longestBlock_32 (by decide) hr7 (fun hc => ?_) (fun hc => ?_)
    · have h := hA8 hc
      refine x_iconst (pc := 41) dX5_longestBlock_41 ?_
      refine x_istore_n (pc := 42) (al' := [(0, vR 30), (1, vI x1), (2, vI 1), (3, vI x3)]) dX5_longestBlock_42 rfl rfl (Nat.le_of_ble_eq_true rfl) ?_
      refine x_iload_n (pc := 43) 1 dX5_longestBlock_43 rfl ?_
      refine x_iload_n (pc := 44) 2 dX5_longestBlock_44 rfl ?_
      obtain ⟨hr10, h⟩ := h
      refine x_mmax (pc := 45) dX5_longestBlock_45 ml_X5_186 mth_max.1 mth_max.2.1 mth_max.2.2 ⟨Nat.le_of_ble_eq_true rfl, Nat.le_of_ble_eq_true rfl⟩ ⟨Nat.zero_le _, Nat.zero_le _⟩ hr10 ⟨by decide, by decide⟩ ?_
      refine x_nmT (fun u11 eu11 => ?_)
      have h := h u11 eu11
      refine x_istore_n (pc := 48) (al' := [(0, vR 30), (1, vI u11), (2, vI 1), (3, vI x3)]) dX5_longestBlock_48 rfl rfl (Nat.le_of_ble_eq_true rfl) ?_
      refine x_iinc (pc := 49) (al' := [(0, vR 30), (1, vI u11), (2, vI 1), (3, vI (x3 + 1))]) 3 dX5_longestBlock_49 rfl rfl rfl (Nat.le_of_ble_eq_true rfl) ?_
      refine x_goto (pc := 52) 13 dX5_longestBlock_52 (by decide) ?_
      exact x_sub [0, 1, 2, 3] rfl h
    · have h := hB9 hc
      refine x_iload_n (pc := 35) 2 dX5_longestBlock_35 rfl ?_
      refine x_iconst (pc := 36) dX5_longestBlock_36 ?_
      refine x_iadd (pc := 37) dX5_longestBlock_37 ?_
      refine x_goto (pc := 38) 42 dX5_longestBlock_38 (by decide) ?_
      refine x_nmT (fun u12 eu12 => ?_)
      have h := h u12 eu12
      refine x_istore_n (pc := 42) (al' := [(0, vR 30), (1, vI x1), (2, vI u12), (3, vI x3)]) dX5_longestBlock_42 rfl rfl (Nat.le_of_ble_eq_true rfl) ?_
      refine x_iload_n (pc := 43) 1 dX5_longestBlock_43 rfl ?_
      refine x_iload_n (pc := 44) 2 dX5_longestBlock_44 rfl ?_
      obtain ⟨hr13, h⟩ := h
      obtain ⟨hr14, h⟩ := h
      refine x_mmax (pc := 45) dX5_longestBlock_45 ml_X5_186 mth_max.1 mth_max.2.1 mth_max.2.2 ⟨Nat.le_of_ble_eq_true rfl, Nat.le_of_ble_eq_true rfl⟩ ⟨Nat.zero_le _, Nat.zero_le _⟩ hr13 hr14 ?_
      refine x_nmT (fun u15 eu15 => ?_)
      have h := h u15 eu15
      refine x_istore_n (pc := 48) (al' := [(0, vR 30), (1, vI u15), (2, vI u12), (3, vI x3)]) dX5_longestBlock_48 rfl rfl (Nat.le_of_ble_eq_true rfl) ?_
      refine x_iinc (pc := 49) (al' := [(0, vR 30), (1, vI u15), (2, vI u12), (3, vI (x3 + 1))]) 3 dX5_longestBlock_49 rfl rfl rfl (Nat.le_of_ble_eq_true rfl) ?_
      refine x_goto (pc := 52) 13 dX5_longestBlock_52 (by decide) ?_
      exact x_sub [0, 1, 2, 3] rfl h
set_option maxRecDepth 100000 in
set_option maxHeartbeats 4000000 in
theorem t_X5_deadlocks_0 {Γ : GG} {P : MP} {I : MM} {R : Int → MP → MM → Prop} {x1 x2 : Int} {σ κ n σ2 κ2 n2 : Nat} (hb : LBS Γ P σ κ n σ2 κ2 n2)
    (h : (Cl Γ m_X5_needSwap [vR 30, vI x1, vI x2] P I (rv P (fun (I1 : MM) => (Cl Γ m_X5_trySwap [vR 30, vI x1, vI x2] P I1 (rpi (fun (z2 : Int) (P4 : MP) (I3 : MM) => (inR z2) ∧ ((z2 ≠ 0 → R 0 P4 I3) ∧ (z2 = 0 → R 1 P4 I3))))))))) :
    XM Γ m_X5_deadlocks 0 0 0 [(0, vR 30), (1, vI x1), (2, vI x2)] [] P I (rpi R) := by
  refine x_aload_n (pc := 0) 0 dX5_deadlocks_0 rfl ?_
  refine x_iload_n (pc := 1) 1 dX5_deadlocks_1 rfl ?_
  refine x_iload_n (pc := 2) 2 dX5_deadlocks_2 rfl ?_
  refine x_Vv (μ := m_X5_deadlocks) (pc := 3) dX5_deadlocks_3 h k_X5_needSwap ml_X5_191 ⟨Nat.le_of_ble_eq_true rfl, Nat.le_of_ble_eq_true rfl⟩ ⟨rfl, rfl⟩ ⟨Nat.zero_le _, Nat.zero_le _⟩ rfl (LBS_ob hb) rfl (Nat.le_of_ble_eq_true rfl) _ rfl (fun I1 h => ?_)
  refine x_aload_n (pc := 6) 0 dX5_deadlocks_6 rfl ?_
  refine x_iload_n (pc := 7) 1 dX5_deadlocks_7 rfl ?_
  refine x_iload_n (pc := 8) 2 dX5_deadlocks_8 rfl ?_
  refine x_Vpi (μ := m_X5_deadlocks) (pc := 9) dX5_deadlocks_9 h k_X5_trySwap ml_X5_194 ⟨Nat.le_of_ble_eq_true rfl, Nat.le_of_ble_eq_true rfl⟩ ⟨rfl, rfl⟩ ⟨Nat.zero_le _, Nat.zero_le _⟩ rfl (LBS_ob hb) rfl (Nat.le_of_ble_eq_true rfl) _ rfl (fun z2 P4 I3 h => ?_)
  obtain ⟨hr5, h⟩ := h
  obtain ⟨hA6, hB7⟩ := h
  refine x_if_ne (pc := 12) 19 dX5_deadlocks_12 (by decide) hr5 (fun hc => ?_) (fun hc => ?_)
  · have h := hA6 hc
    refine x_iconst (pc := 19) dX5_deadlocks_19 ?_
    exact x_zret (pc := 20) dX5_deadlocks_20 rfl (by decide) (Nat.le_refl _) (Nat.le_refl _) ⟨_, rfl, h⟩
  · have h := hB7 hc
    refine x_iconst (pc := 15) dX5_deadlocks_15 ?_
    refine x_goto (pc := 16) 20 dX5_deadlocks_16 (by decide) ?_
    exact x_zret (pc := 20) dX5_deadlocks_20 rfl (by decide) (Nat.le_refl _) (Nat.le_refl _) ⟨_, rfl, h⟩
set_option maxRecDepth 100000 in
set_option maxHeartbeats 4000000 in
theorem t_X5_makespanAfter_0 {Γ : GG} {P : MP} {I : MM} {R : Int → MP → MM → Prop} {x1 x2 : Int} {σ κ n σ2 κ2 n2 : Nat} (hb : LBS Γ P σ κ n σ2 κ2 n2)
    (h : (Cl Γ m_X5_needSwap [vR 30, vI x1, vI x2] P I (rv P (fun (I1 : MM) => (Cl Γ m_X5_trySwap [vR 30, vI x1, vI x2] P I1 (rpi (fun (z2 : Int) (P4 : MP) (I3 : MM) => (inR z2) ∧ ((z2 = 0 → R (-1) P4 I3) ∧ (¬ z2 = 0 → (P4 30 5 = some 60) ∧ (Cl Γ m_X2_greatestCompletion [vR 60] P4 I3 (ri P4 (fun (z9 : Int) (I10 : MM) => R z9 P4 I10)))))))))))) :
    XM Γ m_X5_makespanAfter 0 0 0 [(0, vR 30), (1, vI x1), (2, vI x2)] [] P I (rpi R) := by
  refine x_aload_n (pc := 0) 0 dX5_makespanAfter_0 rfl ?_
  refine x_iload_n (pc := 1) 1 dX5_makespanAfter_1 rfl ?_
  refine x_iload_n (pc := 2) 2 dX5_makespanAfter_2 rfl ?_
  refine x_Vv (μ := m_X5_makespanAfter) (pc := 3) dX5_makespanAfter_3 h k_X5_needSwap ml_X5_191 ⟨Nat.le_of_ble_eq_true rfl, Nat.le_of_ble_eq_true rfl⟩ ⟨rfl, rfl⟩ ⟨Nat.zero_le _, Nat.zero_le _⟩ rfl (LBS_ob hb) rfl (Nat.le_of_ble_eq_true rfl) _ rfl (fun I1 h => ?_)
  refine x_aload_n (pc := 6) 0 dX5_makespanAfter_6 rfl ?_
  refine x_iload_n (pc := 7) 1 dX5_makespanAfter_7 rfl ?_
  refine x_iload_n (pc := 8) 2 dX5_makespanAfter_8 rfl ?_
  refine x_Vpi (μ := m_X5_makespanAfter) (pc := 9) dX5_makespanAfter_9 h k_X5_trySwap ml_X5_194 ⟨Nat.le_of_ble_eq_true rfl, Nat.le_of_ble_eq_true rfl⟩ ⟨rfl, rfl⟩ ⟨Nat.zero_le _, Nat.zero_le _⟩ rfl (LBS_ob hb) rfl (Nat.le_of_ble_eq_true rfl) _ rfl (fun z2 P4 I3 h => ?_)
  obtain ⟨hr5, h⟩ := h
  obtain ⟨hA6, hB7⟩ := h
  refine x_if_eq (pc := 12) 25 dX5_makespanAfter_12 (by decide) hr5 (fun hc => ?_) (fun hc => ?_)
  · have h := hA6 hc
    refine x_iconst (pc := 25) dX5_makespanAfter_25 ?_
    exact x_iret (pc := 26) dX5_makespanAfter_26 rfl (Nat.le_refl _) (Nat.le_refl _) ⟨_, rfl, h⟩
  · have h := hB7 hc
    refine x_aload_n (pc := 15) 0 dX5_makespanAfter_15 rfl ?_
    obtain ⟨hv8, h⟩ := h
    refine x_getP (pc := 16) dX5_makespanAfter_16 FC5 5 (by decide) rfl fl_X5_52 (LBS_ob hb) hv8 ?_
    refine x_Vi (μ := m_X5_makespanAfter) (pc := 19) dX5_makespanAfter_19 h k_X2_greatestCompletion ml_X5_155 ⟨Nat.le_of_ble_eq_true rfl, Nat.le_of_ble_eq_true rfl⟩ ⟨rfl, rfl⟩ ⟨Nat.zero_le _, Nat.zero_le _⟩ rfl (LSch_ob (LBS_t hb)) rfl (Nat.le_of_ble_eq_true rfl) _ rfl (fun z9 I10 h => ?_)
    refine x_goto (pc := 22) 26 dX5_makespanAfter_22 (by decide) ?_
    exact x_iret (pc := 26) dX5_makespanAfter_26 rfl (Nat.le_refl _) (Nat.le_refl _) ⟨_, rfl, h⟩
set_option maxRecDepth 100000 in
set_option maxHeartbeats 4000000 in
theorem t_X5_bestSwap_0 {Γ : GG} {P : MP} {I : MM} {R : Int → MP → MM → Prop} {σ κ n σ2 κ2 n2 : Nat} (hb : LBS Γ P σ κ n σ2 κ2 n2)
    (h : XM Γ m_X5_bestSwap 0 0 9 [(0, vR 30), (1, vI (-1)), (2, vI 0), (3, vI 0), (4, vI 0)] [] P I (rpi R)) :
    XM Γ m_X5_bestSwap 0 0 0 [(0, vR 30)] [] P I (rpi R) := by
  refine x_iconst (pc := 0) dX5_bestSwap_0 ?_
  refine x_istore_n (pc := 1) (al' := [(0, vR 30), (1, vI (-1))]) dX5_bestSwap_1 rfl rfl (Nat.le_of_ble_eq_true rfl) ?_
  refine x_iconst (pc := 2) dX5_bestSwap_2 ?_
  refine x_istore_n (pc := 3) (al' := [(0, vR 30), (1, vI (-1)), (2, vI 0)]) dX5_bestSwap_3 rfl rfl (Nat.le_of_ble_eq_true rfl) ?_
  refine x_iconst (pc := 4) dX5_bestSwap_4 ?_
  refine x_istore_n (pc := 5) (al' := [(0, vR 30), (1, vI (-1)), (2, vI 0), (3, vI 0)]) dX5_bestSwap_5 rfl rfl (Nat.le_of_ble_eq_true rfl) ?_
  refine x_iconst (pc := 6) dX5_bestSwap_6 ?_
  refine x_istore (pc := 7) (al' := [(0, vR 30), (1, vI (-1)), (2, vI 0), (3, vI 0), (4, vI 0)]) dX5_bestSwap_7 rfl rfl (Nat.le_of_ble_eq_true rfl) ?_
  exact x_sub [0, 1, 2, 3, 4] rfl h
set_option maxRecDepth 100000 in
set_option maxHeartbeats 4000000 in
theorem t_X5_bestSwap_9 {Γ : GG} {P : MP} {I : MM} {R : Int → MP → MM → Prop} {x1 x2 x3 x4 : Int} {σ κ n σ2 κ2 n2 : Nat} (hb : LBS Γ P σ κ n σ2 κ2 n2)
    (h : (inR x4) ∧ (inR (I σ 0)) ∧ (((I σ 0) ≤ x4 → R x1 P I) ∧ (¬ (I σ 0) ≤ x4 → XM Γ m_X5_bestSwap 0 0 27 [(0, vR 30), (1, vI x1), (2, vI x2), (3, vI x3), (4, vI x4), (5, vI 0)] [] P I (rpi R)))) :
    XM Γ m_X5_bestSwap 0 0 9 [(0, vR 30), (1, vI x1), (2, vI x2), (3, vI x3), (4, vI x4)] [] P I (rpi R) := by
  refine x_iload (pc := 9) 4 dX5_bestSwap_9 rfl ?_
  refine x_aload_n (pc := 11) 0 dX5_bestSwap_11 rfl ?_
  refine x_getP (pc := 12) dX5_bestSwap_12 FC5 4 (by decide) rfl fl_X5_51 (LBS_ob hb) (LBS_p4 hb) ?_
  refine x_getP (pc := 15) dX5_bestSwap_15 FC1 0 (by decide) rfl fl_X5_95 (LPlan_ob (LSch_p (LBS_s hb))) (LPlan_p0 (LSch_p (LBS_s hb))) ?_
  refine x_getI (pc := 18) dX5_bestSwap_18 FC4 0 (by decide) rfl fl_X5_99 (LShop_ob (LPlan_s (LSch_p (LBS_s hb)))) ?_
  obtain ⟨hr1, h⟩ := h
  obtain ⟨hr2, h⟩ := h
  obtain ⟨hA3, hB4⟩ := h
  refine x_icmp_ge (pc := 21) 114 dX5_bestSwap_21 (by decide) hr1 hr2 (fun hc => ?_) (fun hc => ?_)
  · have h := hA3 hc
    refine x_iload_n (pc := 114) 1 dX5_bestSwap_114 rfl ?_
    exact x_iret (pc := 115) dX5_bestSwap_115 rfl (Nat.le_refl _) (Nat.le_refl _) ⟨_, rfl, h⟩
  · have h := hB4 hc
    refine x_iconst (pc := 24) dX5_bestSwap_24 ?_
    refine x_istore (pc := 25) (al' := [(0, vR 30), (1, vI x1), (2, vI x2), (3, vI x3), (4, vI x4), (5, vI 0)]) dX5_bestSwap_25 rfl rfl (Nat.le_of_ble_eq_true rfl) ?_
    exact x_sub [0, 1, 2, 3, 4, 5] rfl h
set_option maxRecDepth 100000 in
set_option maxHeartbeats 4000000 in
theorem t_X5_bestSwap_27 {Γ : GG} {P : MP} {I : MM} {R : Int → MP → MM → Prop} {x1 x2 x3 x4 x5 : Int} {σ κ n σ2 κ2 n2 : Nat} (hb : LBS Γ P σ κ n σ2 κ2 n2)
    (h : (0 ≤ x4) ∧ (x4 < 6) ∧ (inR x5) ∧ (inR ((I (σ + 3) (x4).toNat) - 1)) ∧ ((((I (σ + 3) (x4).toNat) - 1) ≤ x5 → XM Γ m_X5_bestSwap 0 0 9 [(0, vR 30), (1, vI x1), (2, vI x2), (3, vI x3), (4, vI (x4 + 1))] [] P I (rpi R)) ∧ (¬ ((I (σ + 3) (x4).toNat) - 1) ≤ x5 → (Cl Γ m_X5_trySwap [vR 30, vI x4, vI x5] P I (rpi (fun (z7 : Int) (P9 : MP) (I8 : MM) => (inR z7) ∧ ((z7 ≠ 0 → (inR x1) ∧ ((x1 < 0 → (∀ u16 : Int, u16 = ((100 * x4) + x5) → (P9 30 5 = some 60) ∧ (Cl Γ m_X2_greatestCompletion [vR 60] P9 I8 (ri P9 (fun (z18 : Int) (I19 : MM) => (Cl Γ m_X2_costOfAll [vR 60] P9 I19 (ri P9 (fun (z20 : Int) (I21 : MM) => XM Γ m_X5_bestSwap 0 0 27 [(0, vR 30), (1, vI u16), (2, vI z18), (3, vI z20), (4, vI x4), (5, vI (x5 + 1))] [] P9 I21 (rpi R))))))))) ∧ (¬ x1 < 0 → (P9 30 5 = some 60) ∧ (Cl Γ m_X2_isBetterThan [vR 60, vI x2, vI x3] P9 I8 (ri P9 (fun (z23 : Int) (I24 : MM) => (inR z23) ∧ ((z23 = 0 → XM Γ m_X5_bestSwap 0 0 27 [(0, vR 30), (1, vI x1), (2, vI x2), (3, vI x3), (4, vI x4), (5, vI (x5 + 1))] [] P9 I24 (rpi R)) ∧ (¬ z23 = 0 → (∀ u28 : Int, u28 = ((100 * x4) + x5) → (Cl Γ m_X2_greatestCompletion [vR 60] P9 I24 (ri P9 (fun (z29 : Int) (I30 : MM) => (Cl Γ m_X2_costOfAll [vR 60] P9 I30 (ri P9 (fun (z31 : Int) (I32 : MM) => XM Γ m_X5_bestSwap 0 0 27 [(0, vR 30), (1, vI u28), (2, vI z29), (3, vI z31), (4, vI x4), (5, vI (x5 + 1))] [] P9 I32 (rpi R)))))))))))))))) ∧ (z7 = 0 → XM Γ m_X5_bestSwap 0 0 27 [(0, vR 30), (1, vI x1), (2, vI x2), (3, vI x3), (4, vI x4), (5, vI (x5 + 1))] [] P9 I8 (rpi R))))))))) :
    XM Γ m_X5_bestSwap 0 0 27 [(0, vR 30), (1, vI x1), (2, vI x2), (3, vI x3), (4, vI x4), (5, vI x5)] [] P I (rpi R) := by
  refine x_iload (pc := 27) 5 dX5_bestSwap_27 rfl ?_
  refine x_aload_n (pc := 29) 0 dX5_bestSwap_29 rfl ?_
  refine x_getP (pc := 30) dX5_bestSwap_30 FC5 4 (by decide) rfl fl_X5_51 (LBS_ob hb) (LBS_p4 hb) ?_
  refine x_getP (pc := 33) dX5_bestSwap_33 FC1 0 (by decide) rfl fl_X5_95 (LPlan_ob (LSch_p (LBS_s hb))) (LPlan_p0 (LSch_p (LBS_s hb))) ?_
  refine x_getP (pc := 36) dX5_bestSwap_36 FC4 5 (by decide) rfl fl_X5_132 (LShop_ob (LPlan_s (LSch_p (LBS_s hb)))) (LShop_p5 (LPlan_s (LSch_p (LBS_s hb)))) ?_
  refine x_iload (pc := 39) 4 dX5_bestSwap_39 rfl ?_
  obtain ⟨hv1, h⟩ := h
  obtain ⟨hv2, h⟩ := h
  refine x_iald (pc := 41) dX5_bestSwap_41 (LShop_a5 (LPlan_s (LSch_p (LBS_s hb)))) hv1 hv2 (by decide) ?_
  refine x_iconst (pc := 42) dX5_bestSwap_42 ?_
  refine x_isub (pc := 43) dX5_bestSwap_43 ?_
  obtain ⟨hr3, h⟩ := h
  obtain ⟨hr4, h⟩ := h
  obtain ⟨hA5, hB6⟩ := h
  refine x_icmp_ge (pc := 44) 108 dX5_bestSwap_44 (by decide) hr3 hr4 (fun hc => ?_) (fun hc => ?_)
  · have h := hA5 hc
    refine x_iinc (pc := 108) (al' := [(0, vR 30), (1, vI x1), (2, vI x2), (3, vI x3), (4, vI (x4 + 1)), (5, vI x5)]) 4 dX5_bestSwap_108 rfl rfl rfl (Nat.le_of_ble_eq_true rfl) ?_
    refine x_goto (pc := 111) 9 dX5_bestSwap_111 (by decide) ?_
    exact x_sub [0, 1, 2, 3, 4] rfl h
  · have h := hB6 hc
    refine x_aload_n (pc := 47) 0 dX5_bestSwap_47 rfl ?_
    refine x_iload (pc := 48) 4 dX5_bestSwap_48 rfl ?_
    refine x_iload (pc := 50) 5 dX5_bestSwap_50 rfl ?_
    refine x_Vpi (μ := m_X5_bestSwap) (pc := 52) dX5_bestSwap_52 h k_X5_trySwap ml_X5_194 ⟨Nat.le_of_ble_eq_true rfl, Nat.le_of_ble_eq_true rfl⟩ ⟨rfl, rfl⟩ ⟨Nat.zero_le _, Nat.zero_le _⟩ rfl (LBS_ob hb) rfl (Nat.le_of_ble_eq_true rfl) _ rfl (fun z7 P9 I8 h => ?_)
    obtain ⟨hr10, h⟩ := h
    obtain ⟨hA11, hB12⟩ := h
    refine x_if_ne (pc := 55) 61 dX5_bestSwap_55 (by decide) hr10 (fun hc => ?_) (fun hc => ?_)
    · have h := hA11 hc
      refine x_iload_n (pc := 61) 1 dX5_bestSwap_61 rfl ?_
      obtain ⟨hr13, h⟩ := h
      obtain ⟨hA14, hB15⟩ := h
      refine x_if_lt (pc := 62) 77 dX5_bestSwap_62 (by decide) hr13 (fun hc => ?_) (fun hc => ?_)
      · have h := hA14 hc
        refine x_bipush (pc := 77) dX5_bestSwap_77 rfl ?_
        refine x_iload (pc := 79) 4 dX5_bestSwap_79 rfl ?_
        refine x_imul (pc := 81) dX5_bestSwap_81 ?_
        refine x_iload (pc := 82) 5 dX5_bestSwap_82 rfl ?_
        refine x_iadd (pc := 84) dX5_bestSwap_84 ?_
        refine x_nmT (fun u16 eu16 => ?_)
        have h := h u16 eu16
        refine x_istore_n (pc := 85) (al' := [(0, vR 30), (1, vI u16), (2, vI x2), (3, vI x3), (4, vI x4), (5, vI x5)]) dX5_bestSwap_85 rfl rfl (Nat.le_of_ble_eq_true rfl) ?_
        refine x_aload_n (pc := 86) 0 dX5_bestSwap_86 rfl ?_
        obtain ⟨hv17, h⟩ := h
        refine x_getP (pc := 87) dX5_bestSwap_87 FC5 5 (by decide) rfl fl_X5_52 (LBS_ob hb) hv17 ?_
        refine x_Vi (μ := m_X5_bestSwap) (pc := 90) dX5_bestSwap_90 h k_X2_greatestCompletion ml_X5_155 ⟨Nat.le_of_ble_eq_true rfl, Nat.le_of_ble_eq_true rfl⟩ ⟨rfl, rfl⟩ ⟨Nat.zero_le _, Nat.zero_le _⟩ rfl (LSch_ob (LBS_t hb)) rfl (Nat.le_of_ble_eq_true rfl) _ rfl (fun z18 I19 h => ?_)
        refine x_istore_n (pc := 93) (al' := [(0, vR 30), (1, vI u16), (2, vI z18), (3, vI x3), (4, vI x4), (5, vI x5)]) dX5_bestSwap_93 rfl rfl (Nat.le_of_ble_eq_true rfl) ?_
        refine x_aload_n (pc := 94) 0 dX5_bestSwap_94 rfl ?_
        refine x_getP (pc := 95) dX5_bestSwap_95 FC5 5 (by decide) rfl fl_X5_52 (LBS_ob hb) hv17 ?_
        refine x_Vi (μ := m_X5_bestSwap) (pc := 98) dX5_bestSwap_98 h k_X2_costOfAll ml_X5_162 ⟨Nat.le_of_ble_eq_true rfl, Nat.le_of_ble_eq_true rfl⟩ ⟨rfl, rfl⟩ ⟨Nat.zero_le _, Nat.zero_le _⟩ rfl (LSch_ob (LBS_t hb)) rfl (Nat.le_of_ble_eq_true rfl) _ rfl (fun z20 I21 h => ?_)
        refine x_istore_n (pc := 101) (al' := [(0, vR 30), (1, vI u16), (2, vI z18), (3, vI z20), (4, vI x4), (5, vI x5)]) dX5_bestSwap_101 rfl rfl (Nat.le_of_ble_eq_true rfl) ?_
        refine x_iinc (pc := 102) (al' := [(0, vR 30), (1, vI u16), (2, vI z18), (3, vI z20), (4, vI x4), (5, vI (x5 + 1))]) 5 dX5_bestSwap_102 rfl rfl rfl (Nat.le_of_ble_eq_true rfl) ?_
        refine x_goto (pc := 105) 27 dX5_bestSwap_105 (by decide) ?_
        exact x_sub [0, 1, 2, 3, 4, 5] rfl h
      · have h := hB15 hc
        refine x_aload_n (pc := 65) 0 dX5_bestSwap_65 rfl ?_
        obtain ⟨hv22, h⟩ := h
        refine x_getP (pc := 66) dX5_bestSwap_66 FC5 5 (by decide) rfl fl_X5_52 (LBS_ob hb) hv22 ?_
        refine x_iload_n (pc := 69) 2 dX5_bestSwap_69 rfl ?_
        refine x_iload_n (pc := 70) 3 dX5_bestSwap_70 rfl ?_
        refine x_Vi (μ := m_X5_bestSwap) (pc := 71) dX5_bestSwap_71 h k_X2_isBetterThan ml_X5_198 ⟨Nat.le_of_ble_eq_true rfl, Nat.le_of_ble_eq_true rfl⟩ ⟨rfl, rfl⟩ ⟨Nat.zero_le _, Nat.zero_le _⟩ rfl (LSch_ob (LBS_t hb)) rfl (Nat.le_of_ble_eq_true rfl) _ rfl (fun z23 I24 h => ?_)
        obtain ⟨hr25, h⟩ := h
        obtain ⟨hA26, hB27⟩ := h
        refine x_if_eq (pc := 74) 102 dX5_bestSwap_74 (by decide) hr25 (fun hc => ?_) (fun hc => ?_)
        · have h := hA26 hc
          refine x_iinc (pc := 102) (al' := [(0, vR 30), (1, vI x1), (2, vI x2), (3, vI x3), (4, vI x4), (5, vI (x5 + 1))]) 5 dX5_bestSwap_102 rfl rfl rfl (Nat.le_of_ble_eq_true rfl) ?_
          refine x_goto (pc := 105) 27 dX5_bestSwap_105 (by decide) ?_
          exact x_sub [0, 1, 2, 3, 4, 5] rfl h
        · have h := hB27 hc
          refine x_bipush (pc := 77) dX5_bestSwap_77 rfl ?_
          refine x_iload (pc := 79) 4 dX5_bestSwap_79 rfl ?_
          refine x_imul (pc := 81) dX5_bestSwap_81 ?_
          refine x_iload (pc := 82) 5 dX5_bestSwap_82 rfl ?_
          refine x_iadd (pc := 84) dX5_bestSwap_84 ?_
          refine x_nmT (fun u28 eu28 => ?_)
          have h := h u28 eu28
          refine x_istore_n (pc := 85) (al' := [(0, vR 30), (1, vI u28), (2, vI x2), (3, vI x3), (4, vI x4), (5, vI x5)]) dX5_bestSwap_85 rfl rfl (Nat.le_of_ble_eq_true rfl) ?_
          refine x_aload_n (pc := 86) 0 dX5_bestSwap_86 rfl ?_
          refine x_getP (pc := 87) dX5_bestSwap_87 FC5 5 (by decide) rfl fl_X5_52 (LBS_ob hb) hv22 ?_
          refine x_Vi (μ := m_X5_bestSwap) (pc := 90) dX5_bestSwap_90 h k_X2_greatestCompletion ml_X5_155 ⟨Nat.le_of_ble_eq_true rfl, Nat.le_of_ble_eq_true rfl⟩ ⟨rfl, rfl⟩ ⟨Nat.zero_le _, Nat.zero_le _⟩ rfl (LSch_ob (LBS_t hb)) rfl (Nat.le_of_ble_eq_true rfl) _ rfl (fun z29 I30 h => ?_)
          refine x_istore_n (pc := 93) (al' := [(0, vR 30), (1, vI u28), (2, vI z29), (3, vI x3), (4, vI x4), (5, vI x5)]) dX5_bestSwap_93 rfl rfl (Nat.le_of_ble_eq_true rfl) ?_
          refine x_aload_n (pc := 94) 0 dX5_bestSwap_94 rfl ?_
          refine x_getP (pc := 95) dX5_bestSwap_95 FC5 5 (by decide) rfl fl_X5_52 (LBS_ob hb) hv22 ?_
          refine x_Vi (μ := m_X5_bestSwap) (pc := 98) dX5_bestSwap_98 h k_X2_costOfAll ml_X5_162 ⟨Nat.le_of_ble_eq_true rfl, Nat.le_of_ble_eq_true rfl⟩ ⟨rfl, rfl⟩ ⟨Nat.zero_le _, Nat.zero_le _⟩ rfl (LSch_ob (LBS_t hb)) rfl (Nat.le_of_ble_eq_true rfl) _ rfl (fun z31 I32 h => ?_)
          refine x_istore_n (pc := 101) (al' := [(0, vR 30), (1, vI u28), (2, vI z29), (3, vI z31), (4, vI x4), (5, vI x5)]) dX5_bestSwap_101 rfl rfl (Nat.le_of_ble_eq_true rfl) ?_
          refine x_iinc (pc := 102) (al' := [(0, vR 30), (1, vI u28), (2, vI z29), (3, vI z31), (4, vI x4), (5, vI (x5 + 1))]) 5 dX5_bestSwap_102 rfl rfl rfl (Nat.le_of_ble_eq_true rfl) ?_
          refine x_goto (pc := 105) 27 dX5_bestSwap_105 (by decide) ?_
          exact x_sub [0, 1, 2, 3, 4, 5] rfl h
    · have h := hB12 hc
      refine x_goto (pc := 58) 102 dX5_bestSwap_58 (by decide) ?_
      refine x_iinc (pc := 102) (al' := [(0, vR 30), (1, vI x1), (2, vI x2), (3, vI x3), (4, vI x4), (5, vI (x5 + 1))]) 5 dX5_bestSwap_102 rfl rfl rfl (Nat.le_of_ble_eq_true rfl) ?_
      refine x_goto (pc := 105) 27 dX5_bestSwap_105 (by decide) ?_
      exact x_sub [0, 1, 2, 3, 4, 5] rfl h
set_option maxRecDepth 100000 in
set_option maxHeartbeats 4000000 in
theorem t_X5_swap_0 {Γ : GG} {P : MP} {I : MM} {R : Int → MP → MM → Prop} {x1 x2 : Int} {σ κ n σ2 κ2 n2 : Nat} (hb : LBS Γ P σ κ n σ2 κ2 n2)
    (h : (Cl Γ m_X5_needSwap [vR 30, vI x1, vI x2] P I (rv P (fun (I1 : MM) => (Cl Γ m_X5_trySwap [vR 30, vI x1, vI x2] P I1 (rpi (fun (z2 : Int) (P4 : MP) (I3 : MM) => (inR z2) ∧ ((z2 ≠ 0 → (Cl Γ m_X5_remember [vR 30] P4 I3 (rp (fun (P9 : MP) (I8 : MM) => (Cl Γ m_X5_adoptTrial [vR 30] P9 I8 (rp (fun (P11 : MP) (I10 : MM) => (P11 30 3 = some 40) ∧ (Cl Γ m_X2_greatestCompletion [vR 40] P11 I10 (ri P11 (fun (z13 : Int) (I14 : MM) => R z13 P11 I14)))))))))) ∧ (z2 = 0 → False))))))))) :
    XM Γ m_X5_swap 0 0 0 [(0, vR 30), (1, vI x1), (2, vI x2)] [] P I (rpi R) := by
  refine x_aload_n (pc := 0) 0 dX5_swap_0 rfl ?_
  refine x_iload_n (pc := 1) 1 dX5_swap_1 rfl ?_
  refine x_iload_n (pc := 2) 2 dX5_swap_2 rfl ?_
  refine x_Vv (μ := m_X5_swap) (pc := 3) dX5_swap_3 h k_X5_needSwap ml_X5_191 ⟨Nat.le_of_ble_eq_true rfl, Nat.le_of_ble_eq_true rfl⟩ ⟨rfl, rfl⟩ ⟨Nat.zero_le _, Nat.zero_le _⟩ rfl (LBS_ob hb) rfl (Nat.le_of_ble_eq_true rfl) _ rfl (fun I1 h => ?_)
  refine x_aload_n (pc := 6) 0 dX5_swap_6 rfl ?_
  refine x_iload_n (pc := 7) 1 dX5_swap_7 rfl ?_
  refine x_iload_n (pc := 8) 2 dX5_swap_8 rfl ?_
  refine x_Vpi (μ := m_X5_swap) (pc := 9) dX5_swap_9 h k_X5_trySwap ml_X5_194 ⟨Nat.le_of_ble_eq_true rfl, Nat.le_of_ble_eq_true rfl⟩ ⟨rfl, rfl⟩ ⟨Nat.zero_le _, Nat.zero_le _⟩ rfl (LBS_ob hb) rfl (Nat.le_of_ble_eq_true rfl) _ rfl (fun z2 P4 I3 h => ?_)
  obtain ⟨hr5, h⟩ := h
  obtain ⟨hA6, hB7⟩ := h
  refine x_if_ne (pc := 12) 25 dX5_swap_12 (by decide) hr5 (fun hc => ?_) (fun hc => ?_)
  · have h := hA6 hc
    refine x_aload_n (pc := 25) 0 dX5_swap_25 rfl ?_
    refine x_Vp (μ := m_X5_swap) (pc := 26) dX5_swap_26 h k_X5_remember ml_X5_82 ⟨Nat.le_of_ble_eq_true rfl, Nat.le_of_ble_eq_true rfl⟩ ⟨rfl, rfl⟩ ⟨Nat.zero_le _, Nat.zero_le _⟩ rfl (LBS_ob hb) rfl (Nat.le_of_ble_eq_true rfl) _ rfl (fun P9 I8 h => ?_)
    refine x_aload_n (pc := 29) 0 dX5_swap_29 rfl ?_
    refine x_Vp (μ := m_X5_swap) (pc := 30) dX5_swap_30 h k_X5_adoptTrial ml_X5_206 ⟨Nat.le_of_ble_eq_true rfl, Nat.le_of_ble_eq_true rfl⟩ ⟨rfl, rfl⟩ ⟨Nat.zero_le _, Nat.zero_le _⟩ rfl (LBS_ob hb) rfl (Nat.le_of_ble_eq_true rfl) _ rfl (fun P11 I10 h => ?_)
    refine x_aload_n (pc := 33) 0 dX5_swap_33 rfl ?_
    obtain ⟨hv12, h⟩ := h
    refine x_getP (pc := 34) dX5_swap_34 FC5 3 (by decide) rfl fl_X5_43 (LBS_ob hb) hv12 ?_
    refine x_Vi (μ := m_X5_swap) (pc := 37) dX5_swap_37 h k_X2_greatestCompletion ml_X5_155 ⟨Nat.le_of_ble_eq_true rfl, Nat.le_of_ble_eq_true rfl⟩ ⟨rfl, rfl⟩ ⟨Nat.zero_le _, Nat.zero_le _⟩ rfl (LSch_ob (LBS_s hb)) rfl (Nat.le_of_ble_eq_true rfl) _ rfl (fun z13 I14 h => ?_)
    exact x_iret (pc := 40) dX5_swap_40 rfl (Nat.le_refl _) (Nat.le_refl _) ⟨_, rfl, h⟩
  · have h := hB7 hc
    exact h.elim
set_option maxRecDepth 100000 in
set_option maxHeartbeats 4000000 in
theorem t_X5_improve_0 {Γ : GG} {P : MP} {I : MM} {R : Int → MP → MM → Prop} {x1 : Int} {σ κ n σ2 κ2 n2 : Nat} (hb : LBS Γ P σ κ n σ2 κ2 n2)
    (h : (inR x1) ∧ ((x1 < 1 → False) ∧ (¬ x1 < 1 → ((x1 ≤ 20 → (Cl Γ m_X5_remember [vR 30] P I (rp (fun (P7 : MP) (I6 : MM) => XM Γ m_X5_improve 0 0 27 [(0, vR 30), (1, vI x1), (2, vI 0)] [] P7 I6 (rpi R))))) ∧ (¬ x1 ≤ 20 → False))))) :
    XM Γ m_X5_improve 0 0 0 [(0, vR 30), (1, vI x1)] [] P I (rpi R) := by
  refine x_iload_n (pc := 0) 1 dX5_improve_0 rfl ?_
  refine x_iconst (pc := 1) dX5_improve_1 ?_
  obtain ⟨hr1, h⟩ := h
  obtain ⟨hA2, hB3⟩ := h
  refine x_icmp_lt (pc := 2) 11 dX5_improve_2 (by decide) hr1 ⟨by decide, by decide⟩ (fun hc => ?_) (fun hc => ?_)
  · have h := hA2 hc
    exact h.elim
  · have h := hB3 hc
    refine x_iload_n (pc := 5) 1 dX5_improve_5 rfl ?_
    refine x_bipush (pc := 6) dX5_improve_6 rfl ?_
    obtain ⟨hA4, hB5⟩ := h
    refine x_icmp_le (pc := 8) 21 dX5_improve_8 (by decide) hr1 ⟨by decide, by decide⟩ (fun hc => ?_) (fun hc => ?_)
    · have h := hA4 hc
      refine x_aload_n (pc := 21) 0 dX5_improve_21 rfl ?_
      refine x_Vp (μ := m_X5_improve) (pc := 22) dX5_improve_22 h k_X5_remember ml_X5_82 ⟨Nat.le_of_ble_eq_true rfl, Nat.le_of_ble_eq_true rfl⟩ ⟨rfl, rfl⟩ ⟨Nat.zero_le _, Nat.zero_le _⟩ rfl (LBS_ob hb) rfl (Nat.le_of_ble_eq_true rfl) _ rfl (fun P7 I6 h => ?_)
      refine x_iconst (pc := 25) dX5_improve_25 ?_
      refine x_istore_n (pc := 26) (al' := [(0, vR 30), (1, vI x1), (2, vI 0)]) dX5_improve_26 rfl rfl (Nat.le_of_ble_eq_true rfl) ?_
      exact x_sub [0, 1, 2] rfl h
    · have h := hB5 hc
      exact h.elim
set_option maxRecDepth 100000 in
set_option maxHeartbeats 4000000 in
theorem t_X5_improve_27 {Γ : GG} {P : MP} {I : MM} {R : Int → MP → MM → Prop} {x1 x2 : Int} {σ κ n σ2 κ2 n2 : Nat} (hb : LBS Γ P σ κ n σ2 κ2 n2)
    (h : (inR x2) ∧ (inR x1) ∧ ((x1 ≤ x2 → R x1 P I) ∧ (¬ x1 ≤ x2 → (Cl Γ m_X5_bestSwap [vR 30] P I (rpi (fun (z5 : Int) (P7 : MP) (I6 : MM) => (inR z5) ∧ ((z5 < 0 → R x2 P7 I6) ∧ (¬ z5 < 0 → (0 ≤ z5) ∧ (Cl Γ m_X5_trySwap [vR 30, vI (z5 / 100), vI (z5 % 100)] P7 I6 (rpi (fun (z12 : Int) (P14 : MP) (I13 : MM) => (inR z12) ∧ ((z12 = 0 → R x2 P14 I13) ∧ (¬ z12 = 0 → (P14 30 5 = some 60) ∧ (Cl Γ m_X5_makespan [vR 30] P14 I13 (ri P14 (fun (z19 : Int) (I20 : MM) => (Cl Γ m_X5_planCost [vR 30] P14 I20 (ri P14 (fun (z21 : Int) (I22 : MM) => (Cl Γ m_X2_isBetterThan [vR 60, vI z19, vI z21] P14 I22 (ri P14 (fun (z23 : Int) (I24 : MM) => (inR z23) ∧ ((z23 ≠ 0 → (Cl Γ m_X5_adoptTrial [vR 30] P14 I24 (rp (fun (P29 : MP) (I28 : MM) => XM Γ m_X5_improve 0 0 27 [(0, vR 30), (1, vI x1), (2, vI (x2 + 1))] [] P29 I28 (rpi R))))) ∧ (z23 = 0 → R x2 P14 I24)))))))))))))))))))))))) :
    XM Γ m_X5_improve 0 0 27 [(0, vR 30), (1, vI x1), (2, vI x2)] [] P I (rpi R) := by
  refine x_iload_n (pc := 27) 2 dX5_improve_27 rfl ?_
  refine x_iload_n (pc := 28) 1 dX5_improve_28 rfl ?_
  obtain ⟨hr1, h⟩ := h
  obtain ⟨hr2, h⟩ := h
  obtain ⟨hA3, hB4⟩ := h
  refine x_icmp_ge (pc := 29) 86 dX5_improve_29 (by decide) hr1 hr2 (fun hc => ?_) (fun hc => ?_)
  · have h := hA3 hc
    refine x_iload_n (pc := 86) 1 dX5_improve_86 rfl ?_
    exact x_iret (pc := 87) dX5_improve_87 rfl (Nat.le_refl _) (Nat.le_refl _) ⟨_, rfl, h⟩
  · have h := hB4 hc
    refine x_aload_n (pc := 32) 0 dX5_improve_32 rfl ?_
    refine x_Vpi (μ := m_X5_improve) (pc := 33) dX5_improve_33 h k_X5_bestSwap ml_X5_211 ⟨Nat.le_of_ble_eq_true rfl, Nat.le_of_ble_eq_true rfl⟩ ⟨rfl, rfl⟩ ⟨Nat.zero_le _, Nat.zero_le _⟩ rfl (LBS_ob hb) rfl (Nat.le_of_ble_eq_true rfl) _ rfl (fun z5 P7 I6 h => ?_)
    refine x_istore_n (pc := 36) (al' := [(0, vR 30), (1, vI x1), (2, vI x2), (3, vI z5)]) dX5_improve_36 rfl rfl (Nat.le_of_ble_eq_true rfl) ?_
    refine x_iload_n (pc := 37) 3 dX5_improve_37 rfl ?_
    obtain ⟨hr8, h⟩ := h
    obtain ⟨hA9, hB10⟩ := h
    refine x_if_lt (pc := 38) 74 dX5_improve_38 (by decide) hr8 (fun hc => ?_) (fun hc => ?_)
    · have h := hA9 hc
      refine x_iload_n (pc := 74) 2 dX5_improve_74 rfl ?_
      exact x_iret (pc := 75) dX5_improve_75 rfl (Nat.le_refl _) (Nat.le_refl _) ⟨_, rfl, h⟩
    · have h := hB10 hc
      refine x_aload_n (pc := 41) 0 dX5_improve_41 rfl ?_
      refine x_iload_n (pc := 42) 3 dX5_improve_42 rfl ?_
      refine x_bipush (pc := 43) dX5_improve_43 rfl ?_
      obtain ⟨hv11, h⟩ := h
      refine x_idiv (pc := 45) dX5_improve_45 hr8 ⟨by decide, by decide⟩ hv11 (by decide) ?_
      refine x_iload_n (pc := 46) 3 dX5_improve_46 rfl ?_
      refine x_bipush (pc := 47) dX5_improve_47 rfl ?_
      refine x_irem (pc := 49) dX5_improve_49 hr8 ⟨by decide, by decide⟩ hv11 (by decide) ?_
      refine x_Vpi (μ := m_X5_improve) (pc := 50) dX5_improve_50 h k_X5_trySwap ml_X5_194 ⟨Nat.le_of_ble_eq_true rfl, Nat.le_of_ble_eq_true rfl⟩ ⟨rfl, rfl⟩ ⟨Nat.zero_le _, Nat.zero_le _⟩ rfl (LBS_ob hb) rfl (Nat.le_of_ble_eq_true rfl) _ rfl (fun z12 P14 I13 h => ?_)
      obtain ⟨hr15, h⟩ := h
      obtain ⟨hA16, hB17⟩ := h
      refine x_if_eq (pc := 53) 74 dX5_improve_53 (by decide) hr15 (fun hc => ?_) (fun hc => ?_)
      · have h := hA16 hc
        refine x_iload_n (pc := 74) 2 dX5_improve_74 rfl ?_
        exact x_iret (pc := 75) dX5_improve_75 rfl (Nat.le_refl _) (Nat.le_refl _) ⟨_, rfl, h⟩
      · have h := hB17 hc
        refine x_aload_n (pc := 56) 0 dX5_improve_56 rfl ?_
        obtain ⟨hv18, h⟩ := h
        refine x_getP (pc := 57) dX5_improve_57 FC5 5 (by decide) rfl fl_X5_52 (LBS_ob hb) hv18 ?_
        refine x_aload_n (pc := 60) 0 dX5_improve_60 rfl ?_
        refine x_Vi (μ := m_X5_improve) (pc := 61) dX5_improve_61 h k_X5_makespan ml_X5_214 ⟨Nat.le_of_ble_eq_true rfl, Nat.le_of_ble_eq_true rfl⟩ ⟨rfl, rfl⟩ ⟨Nat.zero_le _, Nat.zero_le _⟩ rfl (LBS_ob hb) rfl (Nat.le_of_ble_eq_true rfl) _ rfl (fun z19 I20 h => ?_)
        refine x_aload_n (pc := 64) 0 dX5_improve_64 rfl ?_
        refine x_Vi (μ := m_X5_improve) (pc := 65) dX5_improve_65 h k_X5_planCost ml_X5_217 ⟨Nat.le_of_ble_eq_true rfl, Nat.le_of_ble_eq_true rfl⟩ ⟨rfl, rfl⟩ ⟨Nat.zero_le _, Nat.zero_le _⟩ rfl (LBS_ob hb) rfl (Nat.le_of_ble_eq_true rfl) _ rfl (fun z21 I22 h => ?_)
        refine x_Vi (μ := m_X5_improve) (pc := 68) dX5_improve_68 h k_X2_isBetterThan ml_X5_198 ⟨Nat.le_of_ble_eq_true rfl, Nat.le_of_ble_eq_true rfl⟩ ⟨rfl, rfl⟩ ⟨Nat.zero_le _, Nat.zero_le _⟩ rfl (LSch_ob (LBS_t hb)) rfl (Nat.le_of_ble_eq_true rfl) _ rfl (fun z23 I24 h => ?_)
        obtain ⟨hr25, h⟩ := h
        obtain ⟨hA26, hB27⟩ := h
        refine x_if_ne (pc := 71) 76 dX5_improve_71 (by decide) hr25 (fun hc => ?_) (fun hc => ?_)
        · have h := hA26 hc
          refine x_aload_n (pc := 76) 0 dX5_improve_76 rfl ?_
          refine x_Vp (μ := m_X5_improve) (pc := 77) dX5_improve_77 h k_X5_adoptTrial ml_X5_206 ⟨Nat.le_of_ble_eq_true rfl, Nat.le_of_ble_eq_true rfl⟩ ⟨rfl, rfl⟩ ⟨Nat.zero_le _, Nat.zero_le _⟩ rfl (LBS_ob hb) rfl (Nat.le_of_ble_eq_true rfl) _ rfl (fun P29 I28 h => ?_)
          refine x_iinc (pc := 80) (al' := [(0, vR 30), (1, vI x1), (2, vI (x2 + 1)), (3, vI z5)]) 2 dX5_improve_80 rfl rfl rfl (Nat.le_of_ble_eq_true rfl) ?_
          refine x_goto (pc := 83) 27 dX5_improve_83 (by decide) ?_
          exact x_sub [0, 1, 2] rfl h
        · have h := hB27 hc
          refine x_iload_n (pc := 74) 2 dX5_improve_74 rfl ?_
          exact x_iret (pc := 75) dX5_improve_75 rfl (Nat.le_refl _) (Nat.le_refl _) ⟨_, rfl, h⟩
