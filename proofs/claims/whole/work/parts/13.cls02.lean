set_option maxRecDepth 100000 in
set_option maxHeartbeats 4000000 in
theorem t_X1_exchange_0 {Γ : GG} {P : MP} {I : MM} {R : MM → Prop} {x1 x2 : Int} {q σ κ n : Nat} (hp : LPlan Γ P q σ κ n)
    (h : (∀ u1 : Int, u1 = ((x1 * 6) + x2) → (0 ≤ u1) ∧ (u1 < 36) ∧ (∀ u4 : Int, u4 = (I (q + 2) (u1).toNat) → (0 ≤ (u1 + 1)) ∧ ((u1 + 1) < 36) ∧ (∀ I7 : MM, I7 = up2 I (q + 2) (u1).toNat (I (q + 2) ((u1 + 1)).toNat) → (∀ I8 : MM, I8 = up2 I7 (q + 2) ((u1 + 1)).toNat u4 → R I8))))) :
    XM Γ m_X1_exchange 0 0 0 [(0, vR q), (1, vI x1), (2, vI x2)] [] P I (rv P R) := by
  refine x_iload_n (pc := 0) 1 dX1_exchange_0 rfl ?_
  refine x_bipush (pc := 1) dX1_exchange_1 rfl ?_
  refine x_imul (pc := 3) dX1_exchange_3 ?_
  refine x_iload_n (pc := 4) 2 dX1_exchange_4 rfl ?_
  refine x_iadd (pc := 5) dX1_exchange_5 ?_
  refine x_nmT (fun u1 eu1 => ?_)
  have h := h u1 eu1
  refine x_istore_n (pc := 6) (al' := [(0, vR q), (1, vI x1), (2, vI x2), (3, vI u1)]) dX1_exchange_6 rfl rfl (Nat.le_of_ble_eq_true rfl) ?_
  refine x_aload_n (pc := 7) 0 dX1_exchange_7 rfl ?_
  refine x_getP (pc := 8) dX1_exchange_8 FC1 2 (by decide) rfl fl_X1_15 (LPlan_ob hp) (LPlan_p2 hp) ?_
  refine x_iload_n (pc := 11) 3 dX1_exchange_11 rfl ?_
  obtain ⟨hv2, h⟩ := h
  obtain ⟨hv3, h⟩ := h
  refine x_iald (pc := 12) dX1_exchange_12 (LPlan_a2 hp) hv2 hv3 (by decide) ?_
  refine x_nmT (fun u4 eu4 => ?_)
  have h := h u4 eu4
  refine x_istore (pc := 13) (al' := [(0, vR q), (1, vI x1), (2, vI x2), (3, vI u1), (4, vI u4)]) dX1_exchange_13 rfl rfl (Nat.le_of_ble_eq_true rfl) ?_
  refine x_aload_n (pc := 15) 0 dX1_exchange_15 rfl ?_
  refine x_getP (pc := 16) dX1_exchange_16 FC1 2 (by decide) rfl fl_X1_15 (LPlan_ob hp) (LPlan_p2 hp) ?_
  refine x_iload_n (pc := 19) 3 dX1_exchange_19 rfl ?_
  refine x_aload_n (pc := 20) 0 dX1_exchange_20 rfl ?_
  refine x_getP (pc := 21) dX1_exchange_21 FC1 2 (by decide) rfl fl_X1_15 (LPlan_ob hp) (LPlan_p2 hp) ?_
  refine x_iload_n (pc := 24) 3 dX1_exchange_24 rfl ?_
  refine x_iconst (pc := 25) dX1_exchange_25 ?_
  refine x_iadd (pc := 26) dX1_exchange_26 ?_
  obtain ⟨hv5, h⟩ := h
  obtain ⟨hv6, h⟩ := h
  refine x_iald (pc := 27) dX1_exchange_27 (LPlan_a2 hp) hv5 hv6 (by decide) ?_
  refine x_iast (pc := 28) dX1_exchange_28 (LPlan_a2 hp) hv2 hv3 (by decide) ?_
  refine x_nmI (fun I7 eI7 => ?_)
  have h := h I7 eI7
  refine x_aload_n (pc := 29) 0 dX1_exchange_29 rfl ?_
  refine x_getP (pc := 30) dX1_exchange_30 FC1 2 (by decide) rfl fl_X1_15 (LPlan_ob hp) (LPlan_p2 hp) ?_
  refine x_iload_n (pc := 33) 3 dX1_exchange_33 rfl ?_
  refine x_iconst (pc := 34) dX1_exchange_34 ?_
  refine x_iadd (pc := 35) dX1_exchange_35 ?_
  refine x_iload (pc := 36) 4 dX1_exchange_36 rfl ?_
  refine x_iast (pc := 38) dX1_exchange_38 (LPlan_a2 hp) hv5 hv6 (by decide) ?_
  refine x_nmI (fun I8 eI8 => ?_)
  have h := h I8 eI8
  exact x_vret (pc := 39) dX1_exchange_39 rfl (Nat.le_refl _) (Nat.le_refl _) ⟨rfl, rfl, h⟩
set_option maxRecDepth 100000 in
set_option maxHeartbeats 4000000 in
theorem t_X1_move_0 {Γ : GG} {P : MP} {I : MM} {R : MM → Prop} {x1 x2 x3 : Int} {q σ κ n : Nat} (hp : LPlan Γ P q σ κ n)
    (h : XM Γ m_X1_move 0 0 3 [(0, vR q), (1, vI x1), (2, vI x2), (3, vI x3), (4, vI x2)] [] P I (rv P R)) :
    XM Γ m_X1_move 0 0 0 [(0, vR q), (1, vI x1), (2, vI x2), (3, vI x3)] [] P I (rv P R) := by
  refine x_iload_n (pc := 0) 2 dX1_move_0 rfl ?_
  refine x_istore (pc := 1) (al' := [(0, vR q), (1, vI x1), (2, vI x2), (3, vI x3), (4, vI x2)]) dX1_move_1 rfl rfl (Nat.le_of_ble_eq_true rfl) ?_
  exact x_sub [0, 1, 2, 3, 4] rfl h
set_option maxRecDepth 100000 in
set_option maxHeartbeats 4000000 in
theorem t_X1_move_3 {Γ : GG} {P : MP} {I : MM} {R : MM → Prop} {x1 x2 x3 x4 : Int} {q σ κ n : Nat} (hp : LPlan Γ P q σ κ n)
    (h : (inR x4) ∧ (inR x3) ∧ ((x3 ≤ x4 → XM Γ m_X1_move 0 0 25 [(0, vR q), (1, vI x1), (3, vI x3), (4, vI x2)] [] P I (rv P R)) ∧ (¬ x3 ≤ x4 → (Cl Γ m_X1_exchange [vR q, vI x1, vI x4] P I (rv P (fun (I5 : MM) => XM Γ m_X1_move 0 0 3 [(0, vR q), (1, vI x1), (2, vI x2), (3, vI x3), (4, vI (x4 + 1))] [] P I5 (rv P R))))))) :
    XM Γ m_X1_move 0 0 3 [(0, vR q), (1, vI x1), (2, vI x2), (3, vI x3), (4, vI x4)] [] P I (rv P R) := by
  refine x_iload (pc := 3) 4 dX1_move_3 rfl ?_
  refine x_iload_n (pc := 5) 3 dX1_move_5 rfl ?_
  obtain ⟨hr1, h⟩ := h
  obtain ⟨hr2, h⟩ := h
  obtain ⟨hA3, hB4⟩ := h
  refine x_icmp_ge (pc := 6) 22 dX1_move_6 (by decide) hr1 hr2 (fun hc => ?_) (fun hc => ?_)
  · have h := hA3 hc
    refine x_iload_n (pc := 22) 2 dX1_move_22 rfl ?_
    refine x_istore (pc := 23) (al' := [(0, vR q), (1, vI x1), (2, vI x2), (3, vI x3), (4, vI x2)]) dX1_move_23 rfl rfl (Nat.le_of_ble_eq_true rfl) ?_
    exact x_sub [0, 1, 3, 4] rfl h
  · have h := hB4 hc
    refine x_aload_n (pc := 9) 0 dX1_move_9 rfl ?_
    refine x_iload_n (pc := 10) 1 dX1_move_10 rfl ?_
    refine x_iload (pc := 11) 4 dX1_move_11 rfl ?_
    refine x_Vv (μ := m_X1_move) (pc := 13) dX1_move_13 h k_X1_exchange ml_X1_60 ⟨Nat.le_of_ble_eq_true rfl, Nat.le_of_ble_eq_true rfl⟩ ⟨rfl, rfl⟩ ⟨Nat.zero_le _, Nat.zero_le _⟩ rfl (LPlan_ob hp) rfl (Nat.le_of_ble_eq_true rfl) _ rfl (fun I5 h => ?_)
    refine x_iinc (pc := 16) (al' := [(0, vR q), (1, vI x1), (2, vI x2), (3, vI x3), (4, vI (x4 + 1))]) 4 dX1_move_16 rfl rfl rfl (Nat.le_of_ble_eq_true rfl) ?_
    refine x_goto (pc := 19) 3 dX1_move_19 (by decide) ?_
    exact x_sub [0, 1, 2, 3, 4] rfl h
set_option maxRecDepth 100000 in
set_option maxHeartbeats 4000000 in
theorem t_X1_move_25 {Γ : GG} {P : MP} {I : MM} {R : MM → Prop} {x1 x3 x4 : Int} {q σ κ n : Nat} (hp : LPlan Γ P q σ κ n)
    (h : (inR x4) ∧ (inR x3) ∧ ((x4 ≤ x3 → R I) ∧ (¬ x4 ≤ x3 → (Cl Γ m_X1_exchange [vR q, vI x1, vI (x4 - 1)] P I (rv P (fun (I5 : MM) => XM Γ m_X1_move 0 0 25 [(0, vR q), (1, vI x1), (3, vI x3), (4, vI (x4 + (-1)))] [] P I5 (rv P R))))))) :
    XM Γ m_X1_move 0 0 25 [(0, vR q), (1, vI x1), (3, vI x3), (4, vI x4)] [] P I (rv P R) := by
  refine x_iload (pc := 25) 3 dX1_move_25 rfl ?_
  refine x_iload_n (pc := 27) 2 dX1_move_27 rfl ?_
  obtain ⟨hr1, h⟩ := h
  obtain ⟨hr2, h⟩ := h
  obtain ⟨hA3, hB4⟩ := h
  refine x_icmp_le (pc := 28) 46 dX1_move_28 (by decide) hr1 hr2 (fun hc => ?_) (fun hc => ?_)
  · have h := hA3 hc
    exact x_vret (pc := 46) dX1_move_46 rfl (Nat.le_refl _) (Nat.le_refl _) ⟨rfl, rfl, h⟩
  · have h := hB4 hc
    refine x_aload_n (pc := 31) 0 dX1_move_31 rfl ?_
    refine x_iload_n (pc := 32) 1 dX1_move_32 rfl ?_
    refine x_iload (pc := 33) 3 dX1_move_33 rfl ?_
    refine x_iconst (pc := 35) dX1_move_35 ?_
    refine x_isub (pc := 36) dX1_move_36 ?_
    refine x_Vv (μ := m_X1_move) (pc := 37) dX1_move_37 h k_X1_exchange ml_X1_60 ⟨Nat.le_of_ble_eq_true rfl, Nat.le_of_ble_eq_true rfl⟩ ⟨rfl, rfl⟩ ⟨Nat.zero_le _, Nat.zero_le _⟩ rfl (LPlan_ob hp) rfl (Nat.le_of_ble_eq_true rfl) _ rfl (fun I5 h => ?_)
    refine x_iinc (pc := 40) (al' := [(0, vR q), (1, vI x1), (3, vI x3), (4, vI (x4 + (-1)))]) 3 dX1_move_40 rfl rfl rfl (Nat.le_of_ble_eq_true rfl) ?_
    refine x_goto (pc := 43) 25 dX1_move_43 (by decide) ?_
    exact x_sub [0, 1, 2, 3] rfl h
set_option maxRecDepth 100000 in
set_option maxHeartbeats 4000000 in
theorem t_X2_compute_0 {Γ : GG} {P : MP} {I : MM} {R : Int → MM → Prop} {q σ κ n : Nat} (hs : LSch Γ P q σ κ n)
    (h : XM Γ m_X2_compute 0 0 2 [(0, vR q), (1, vI 0)] [] P I (ri P R)) :
    XM Γ m_X2_compute 0 0 0 [(0, vR q)] [] P I (ri P R) := by
  refine x_iconst (pc := 0) dX2_compute_0 ?_
  refine x_istore_n (pc := 1) (al' := [(0, vR q), (1, vI 0)]) dX2_compute_1 rfl rfl (Nat.le_of_ble_eq_true rfl) ?_
  exact x_sub [0, 1] rfl h
set_option maxRecDepth 100000 in
set_option maxHeartbeats 4000000 in
theorem t_X2_compute_2 {Γ : GG} {P : MP} {I : MM} {R : Int → MM → Prop} {x1 : Int} {q σ κ n : Nat} (hs : LSch Γ P q σ κ n)
    (h : (inR x1) ∧ (inR (I σ 0)) ∧ (((I σ 0) ≤ x1 → (Cl Γ m_X2_unsettleAll [vR q] P I (ri P (fun (z5 : Int) (I6 : MM) => XM Γ m_X2_compute 0 0 36 [(0, vR q), (1, vI z5), (2, vI z5), (3, vI 0)] [] P I6 (ri P R))))) ∧ (¬ (I σ 0) ≤ x1 → (Cl Γ m_X2_setArcs [vR q, vI x1] P I (rv P (fun (I7 : MM) => XM Γ m_X2_compute 0 0 2 [(0, vR q), (1, vI (x1 + 1))] [] P I7 (ri P R))))))) :
    XM Γ m_X2_compute 0 0 2 [(0, vR q), (1, vI x1)] [] P I (ri P R) := by
  refine x_iload_n (pc := 2) 1 dX2_compute_2 rfl ?_
  refine x_aload_n (pc := 3) 0 dX2_compute_3 rfl ?_
  refine x_getP (pc := 4) dX2_compute_4 FC2 0 (by decide) rfl fl_X2_44 (LSch_ob hs) (LSch_p0 hs) ?_
  refine x_getP (pc := 7) dX2_compute_7 FC1 0 (by decide) rfl fl_X2_48 (LPlan_ob (LSch_p hs)) (LPlan_p0 (LSch_p hs)) ?_
  refine x_getI (pc := 10) dX2_compute_10 FC4 0 (by decide) rfl fl_X2_52 (LShop_ob (LPlan_s (LSch_p hs))) ?_
  obtain ⟨hr1, h⟩ := h
  obtain ⟨hr2, h⟩ := h
  obtain ⟨hA3, hB4⟩ := h
  refine x_icmp_ge (pc := 13) 27 dX2_compute_13 (by decide) hr1 hr2 (fun hc => ?_) (fun hc => ?_)
  · have h := hA3 hc
    refine x_aload_n (pc := 27) 0 dX2_compute_27 rfl ?_
    refine x_Vi (μ := m_X2_compute) (pc := 28) dX2_compute_28 h k_X2_unsettleAll ml_X2_61 ⟨Nat.le_of_ble_eq_true rfl, Nat.le_of_ble_eq_true rfl⟩ ⟨rfl, rfl⟩ ⟨Nat.zero_le _, Nat.zero_le _⟩ rfl (LSch_ob hs) rfl (Nat.le_of_ble_eq_true rfl) _ rfl (fun z5 I6 h => ?_)
    refine x_istore_n (pc := 31) (al' := [(0, vR q), (1, vI z5)]) dX2_compute_31 rfl rfl (Nat.le_of_ble_eq_true rfl) ?_
    refine x_iload_n (pc := 32) 1 dX2_compute_32 rfl ?_
    refine x_istore_n (pc := 33) (al' := [(0, vR q), (1, vI z5), (2, vI z5)]) dX2_compute_33 rfl rfl (Nat.le_of_ble_eq_true rfl) ?_
    refine x_iconst (pc := 34) dX2_compute_34 ?_
    refine x_istore_n (pc := 35) (al' := [(0, vR q), (1, vI z5), (2, vI z5), (3, vI 0)]) dX2_compute_35 rfl rfl (Nat.le_of_ble_eq_true rfl) ?_
    exact x_sub [0, 1, 2, 3] rfl h
  · have h := hB4 hc
    refine x_aload_n (pc := 16) 0 dX2_compute_16 rfl ?_
    refine x_iload_n (pc := 17) 1 dX2_compute_17 rfl ?_
    refine x_Vv (μ := m_X2_compute) (pc := 18) dX2_compute_18 h k_X2_setArcs ml_X2_57 ⟨Nat.le_of_ble_eq_true rfl, Nat.le_of_ble_eq_true rfl⟩ ⟨rfl, rfl⟩ ⟨Nat.zero_le _, Nat.zero_le _⟩ rfl (LSch_ob hs) rfl (Nat.le_of_ble_eq_true rfl) _ rfl (fun I7 h => ?_)
    refine x_iinc (pc := 21) (al' := [(0, vR q), (1, vI (x1 + 1))]) 1 dX2_compute_21 rfl rfl rfl (Nat.le_of_ble_eq_true rfl) ?_
    refine x_goto (pc := 24) 2 dX2_compute_24 (by decide) ?_
    exact x_sub [0, 1] rfl h
set_option maxRecDepth 100000 in
set_option maxHeartbeats 4000000 in
theorem t_X2_compute_36 {Γ : GG} {P : MP} {I : MM} {R : Int → MM → Prop} {x1 x2 x3 : Int} {q σ κ n : Nat} (hs : LSch Γ P q σ κ n)
    (h : (inR x3) ∧ ((36 ≤ x3 → (inR x1) ∧ ((x1 ≠ 0 → R 0 I) ∧ (x1 = 0 → R 1 I))) ∧ (¬ 36 ≤ x3 → (inR x1) ∧ ((x1 ≤ 0 → ((x1 ≠ 0 → R 0 I) ∧ (x1 = 0 → R 1 I))) ∧ (¬ x1 ≤ 0 → (inR x2) ∧ ((x2 ≤ 0 → ((x1 ≠ 0 → R 0 I) ∧ (x1 = 0 → R 1 I))) ∧ (¬ x2 ≤ 0 → (Cl Γ m_X2_settleSome [vR q] P I (ri P (fun (z17 : Int) (I18 : MM) => (inR z17) ∧ ((z17 ≠ 0 → (∀ u22 : Int, u22 = (x1 - z17) → XM Γ m_X2_compute 0 0 36 [(0, vR q), (1, vI u22), (2, vI z17), (3, vI (x3 + 1))] [] P I18 (ri P R))) ∧ (z17 = 0 → (inR (I18 σ 2)) ∧ (((I18 σ 2) = 0 → (∀ u26 : Int, u26 = (x1 - z17) → XM Γ m_X2_compute 0 0 36 [(0, vR q), (1, vI u26), (2, vI z17), (3, vI (x3 + 1))] [] P I18 (ri P R))) ∧ (¬ (I18 σ 2) = 0 → (Cl Γ m_X2_settleRing [vR q] P I18 (ri P (fun (z27 : Int) (I28 : MM) => (∀ u29 : Int, u29 = (x1 - z27) → XM Γ m_X2_compute 0 0 36 [(0, vR q), (1, vI u29), (2, vI z27), (3, vI (x3 + 1))] [] P I28 (ri P R))))))))))))))))))) :
    XM Γ m_X2_compute 0 0 36 [(0, vR q), (1, vI x1), (2, vI x2), (3, vI x3)] [] P I (ri P R) := by
  refine x_iload_n (pc := 36) 3 dX2_compute_36 rfl ?_
  refine x_bipush (pc := 37) dX2_compute_37 rfl ?_
  obtain ⟨hr1, h⟩ := h
  obtain ⟨hA2, hB3⟩ := h
  refine x_icmp_ge (pc := 39) 87 dX2_compute_39 (by decide) hr1 ⟨by decide, by decide⟩ (fun hc => ?_) (fun hc => ?_)
  · have h := hA2 hc
    refine x_iload_n (pc := 87) 1 dX2_compute_87 rfl ?_
    obtain ⟨hr4, h⟩ := h
    obtain ⟨hA5, hB6⟩ := h
    refine x_if_ne (pc := 88) 95 dX2_compute_88 (by decide) hr4 (fun hc => ?_) (fun hc => ?_)
    · have h := hA5 hc
      refine x_iconst (pc := 95) dX2_compute_95 ?_
      exact x_zret (pc := 96) dX2_compute_96 rfl (by decide) (Nat.le_refl _) (Nat.le_refl _) ⟨_, rfl, rfl, h⟩
    · have h := hB6 hc
      refine x_iconst (pc := 91) dX2_compute_91 ?_
      refine x_goto (pc := 92) 96 dX2_compute_92 (by decide) ?_
      exact x_zret (pc := 96) dX2_compute_96 rfl (by decide) (Nat.le_refl _) (Nat.le_refl _) ⟨_, rfl, rfl, h⟩
  · have h := hB3 hc
    refine x_iload_n (pc := 42) 1 dX2_compute_42 rfl ?_
    obtain ⟨hr7, h⟩ := h
    obtain ⟨hA8, hB9⟩ := h
    refine x_if_le (pc := 43) 87 dX2_compute_43 (by decide) hr7 (fun hc => ?_) (fun hc => ?_)
    · have h := hA8 hc
      refine x_iload_n (pc := 87) 1 dX2_compute_87 rfl ?_
      obtain ⟨hA10, hB11⟩ := h
      refine x_if_ne (pc := 88) 95 dX2_compute_88 (by decide) hr7 (fun hc => ?_) (fun hc => ?_)
      · have h := hA10 hc
        refine x_iconst (pc := 95) dX2_compute_95 ?_
        exact x_zret (pc := 96) dX2_compute_96 rfl (by decide) (Nat.le_refl _) (Nat.le_refl _) ⟨_, rfl, rfl, h⟩
      · have h := hB11 hc
        refine x_iconst (pc := 91) dX2_compute_91 ?_
        refine x_goto (pc := 92) 96 dX2_compute_92 (by decide) ?_
        exact x_zret (pc := 96) dX2_compute_96 rfl (by decide) (Nat.le_refl _) (Nat.le_refl _) ⟨_, rfl, rfl, h⟩
    · have h := hB9 hc
      refine x_iload_n (pc := 46) 2 dX2_compute_46 rfl ?_
      obtain ⟨hr12, h⟩ := h
      obtain ⟨hA13, hB14⟩ := h
      refine x_if_le (pc := 47) 87 dX2_compute_47 (by decide) hr12 (fun hc => ?_) (fun hc => ?_)
      · have h := hA13 hc
        refine x_iload_n (pc := 87) 1 dX2_compute_87 rfl ?_
        obtain ⟨hA15, hB16⟩ := h
        refine x_if_ne (pc := 88) 95 dX2_compute_88 (by decide) hr7 (fun hc => ?_) (fun hc => ?_)
        · have h := hA15 hc
          refine x_iconst (pc := 95) dX2_compute_95 ?_
          exact x_zret (pc := 96) dX2_compute_96 rfl (by decide) (Nat.le_refl _) (Nat.le_refl _) ⟨_, rfl, rfl, h⟩
        · have h := hB16 hc
          refine x_iconst (pc := 91) dX2_compute_91 ?_
          refine x_goto (pc := 92) 96 dX2_compute_92 (by decide) ?_
          exact x_zret (pc := 96) dX2_compute_96 rfl (by decide) (Nat.le_refl _) (Nat.le_refl _) ⟨_, rfl, rfl, h⟩
      · have h := hB14 hc
        refine x_aload_n (pc := 50) 0 dX2_compute_50 rfl ?_
        refine x_Vi (μ := m_X2_compute) (pc := 51) dX2_compute_51 h k_X2_settleSome ml_X2_65 ⟨Nat.le_of_ble_eq_true rfl, Nat.le_of_ble_eq_true rfl⟩ ⟨rfl, rfl⟩ ⟨Nat.zero_le _, Nat.zero_le _⟩ rfl (LSch_ob hs) rfl (Nat.le_of_ble_eq_true rfl) _ rfl (fun z17 I18 h => ?_)
        refine x_istore_n (pc := 54) (al' := [(0, vR q), (1, vI x1), (2, vI z17), (3, vI x3)]) dX2_compute_54 rfl rfl (Nat.le_of_ble_eq_true rfl) ?_
        refine x_iload_n (pc := 55) 2 dX2_compute_55 rfl ?_
        obtain ⟨hr19, h⟩ := h
        obtain ⟨hA20, hB21⟩ := h
        refine x_if_ne (pc := 56) 77 dX2_compute_56 (by decide) hr19 (fun hc => ?_) (fun hc => ?_)
        · have h := hA20 hc
          refine x_iload_n (pc := 77) 1 dX2_compute_77 rfl ?_
          refine x_iload_n (pc := 78) 2 dX2_compute_78 rfl ?_
          refine x_isub (pc := 79) dX2_compute_79 ?_
          refine x_nmT (fun u22 eu22 => ?_)
          have h := h u22 eu22
          refine x_istore_n (pc := 80) (al' := [(0, vR q), (1, vI u22), (2, vI z17), (3, vI x3)]) dX2_compute_80 rfl rfl (Nat.le_of_ble_eq_true rfl) ?_
          refine x_iinc (pc := 81) (al' := [(0, vR q), (1, vI u22), (2, vI z17), (3, vI (x3 + 1))]) 3 dX2_compute_81 rfl rfl rfl (Nat.le_of_ble_eq_true rfl) ?_
          refine x_goto (pc := 84) 36 dX2_compute_84 (by decide) ?_
          exact x_sub [0, 1, 2, 3] rfl h
        · have h := hB21 hc
          refine x_aload_n (pc := 59) 0 dX2_compute_59 rfl ?_
          refine x_getP (pc := 60) dX2_compute_60 FC2 0 (by decide) rfl fl_X2_44 (LSch_ob hs) (LSch_p0 hs) ?_
          refine x_getP (pc := 63) dX2_compute_63 FC1 0 (by decide) rfl fl_X2_48 (LPlan_ob (LSch_p hs)) (LPlan_p0 (LSch_p hs)) ?_
          refine x_getI (pc := 66) dX2_compute_66 FC4 2 (by decide) rfl fl_X2_68 (LShop_ob (LPlan_s (LSch_p hs))) ?_
          obtain ⟨hr23, h⟩ := h
          obtain ⟨hA24, hB25⟩ := h
          refine x_if_eq (pc := 69) 77 dX2_compute_69 (by decide) hr23 (fun hc => ?_) (fun hc => ?_)
          · have h := hA24 hc
            refine x_iload_n (pc := 77) 1 dX2_compute_77 rfl ?_
            refine x_iload_n (pc := 78) 2 dX2_compute_78 rfl ?_
            refine x_isub (pc := 79) dX2_compute_79 ?_
            refine x_nmT (fun u26 eu26 => ?_)
            have h := h u26 eu26
            refine x_istore_n (pc := 80) (al' := [(0, vR q), (1, vI u26), (2, vI z17), (3, vI x3)]) dX2_compute_80 rfl rfl (Nat.le_of_ble_eq_true rfl) ?_
            refine x_iinc (pc := 81) (al' := [(0, vR q), (1, vI u26), (2, vI z17), (3, vI (x3 + 1))]) 3 dX2_compute_81 rfl rfl rfl (Nat.le_of_ble_eq_true rfl) ?_
            refine x_goto (pc := 84) 36 dX2_compute_84 (by decide) ?_
            exact x_sub [0, 1, 2, 3] rfl h
          · have h := hB25 hc
            refine x_aload_n (pc := 72) 0 dX2_compute_72 rfl ?_
            refine x_Vi (μ := m_X2_compute) (pc := 73) dX2_compute_73 h k_X2_settleRing ml_X2_72 ⟨Nat.le_of_ble_eq_true rfl, Nat.le_of_ble_eq_true rfl⟩ ⟨rfl, rfl⟩ ⟨Nat.zero_le _, Nat.zero_le _⟩ rfl (LSch_ob hs) rfl (Nat.le_of_ble_eq_true rfl) _ rfl (fun z27 I28 h => ?_)
            refine x_istore_n (pc := 76) (al' := [(0, vR q), (1, vI x1), (2, vI z27), (3, vI x3)]) dX2_compute_76 rfl rfl (Nat.le_of_ble_eq_true rfl) ?_
            refine x_iload_n (pc := 77) 1 dX2_compute_77 rfl ?_
            refine x_iload_n (pc := 78) 2 dX2_compute_78 rfl ?_
            refine x_isub (pc := 79) dX2_compute_79 ?_
            refine x_nmT (fun u29 eu29 => ?_)
            have h := h u29 eu29
            refine x_istore_n (pc := 80) (al' := [(0, vR q), (1, vI u29), (2, vI z27), (3, vI x3)]) dX2_compute_80 rfl rfl (Nat.le_of_ble_eq_true rfl) ?_
            refine x_iinc (pc := 81) (al' := [(0, vR q), (1, vI u29), (2, vI z27), (3, vI (x3 + 1))]) 3 dX2_compute_81 rfl rfl rfl (Nat.le_of_ble_eq_true rfl) ?_
            refine x_goto (pc := 84) 36 dX2_compute_84 (by decide) ?_
            exact x_sub [0, 1, 2, 3] rfl h
set_option maxRecDepth 100000 in
set_option maxHeartbeats 4000000 in
theorem t_X2_setArcs_0 {Γ : GG} {P : MP} {I : MM} {R : MM → Prop} {x1 : Int} {q σ κ n : Nat} (hs : LSch Γ P q σ κ n)
    (h : (0 ≤ x1) ∧ (x1 < 6) ∧ (∀ u3 : Int, u3 = (I (σ + 2) (x1).toNat) → XM Γ m_X2_setArcs 0 0 21 [(0, vR q), (1, vI x1), (2, vR σ), (3, vI u3), (4, vI (-1)), (5, vI 0)] [] P I (rv P R))) :
    XM Γ m_X2_setArcs 0 0 0 [(0, vR q), (1, vI x1)] [] P I (rv P R) := by
  refine x_aload_n (pc := 0) 0 dX2_setArcs_0 rfl ?_
  refine x_getP (pc := 1) dX2_setArcs_1 FC2 0 (by decide) rfl fl_X2_44 (LSch_ob hs) (LSch_p0 hs) ?_
  refine x_getP (pc := 4) dX2_setArcs_4 FC1 0 (by decide) rfl fl_X2_48 (LPlan_ob (LSch_p hs)) (LPlan_p0 (LSch_p hs)) ?_
  refine x_astore_n (pc := 7) (al' := [(0, vR q), (1, vI x1), (2, vR σ)]) dX2_setArcs_7 rfl rfl (Nat.le_of_ble_eq_true rfl) ?_
  refine x_aload_n (pc := 8) 2 dX2_setArcs_8 rfl ?_
  refine x_getP (pc := 9) dX2_setArcs_9 FC4 4 (by decide) rfl fl_X2_75 (LShop_ob (LPlan_s (LSch_p hs))) (LShop_p4 (LPlan_s (LSch_p hs))) ?_
  refine x_iload_n (pc := 12) 1 dX2_setArcs_12 rfl ?_
  obtain ⟨hv1, h⟩ := h
  obtain ⟨hv2, h⟩ := h
  refine x_iald (pc := 13) dX2_setArcs_13 (LShop_a4 (LPlan_s (LSch_p hs))) hv1 hv2 (by decide) ?_
  refine x_nmT (fun u3 eu3 => ?_)
  have h := h u3 eu3
  refine x_istore_n (pc := 14) (al' := [(0, vR q), (1, vI x1), (2, vR σ), (3, vI u3)]) dX2_setArcs_14 rfl rfl (Nat.le_of_ble_eq_true rfl) ?_
  refine x_iconst (pc := 15) dX2_setArcs_15 ?_
  refine x_istore (pc := 16) (al' := [(0, vR q), (1, vI x1), (2, vR σ), (3, vI u3), (4, vI (-1))]) dX2_setArcs_16 rfl rfl (Nat.le_of_ble_eq_true rfl) ?_
  refine x_iconst (pc := 18) dX2_setArcs_18 ?_
  refine x_istore (pc := 19) (al' := [(0, vR q), (1, vI x1), (2, vR σ), (3, vI u3), (4, vI (-1)), (5, vI 0)]) dX2_setArcs_19 rfl rfl (Nat.le_of_ble_eq_true rfl) ?_
  exact x_sub [0, 1, 2, 3, 4, 5] rfl h
set_option maxRecDepth 100000 in
set_option maxHeartbeats 4000000 in
theorem t_X2_setArcs_21 {Γ : GG} {P : MP} {I : MM} {R : MM → Prop} {x1 x3 x4 x5 : Int} {q σ κ n : Nat} (hs : LSch Γ P q σ κ n)
    (h : (0 ≤ x1) ∧ (x1 < 6) ∧ (inR x5) ∧ (inR (I (σ + 3) (x1).toNat)) ∧ (((I (σ + 3) (x1).toNat) ≤ x5 → R I) ∧ (¬ (I (σ + 3) (x1).toNat) ≤ x5 → (0 ≤ ((x1 * 6) + x5)) ∧ (((x1 * 6) + x5) < 36) ∧ (∀ u9 : Int, u9 = (I ((q + 8) + 2) (((x1 * 6) + x5)).toNat) → (inR x4) ∧ ((0 ≤ x4 → (inR (I (σ + 1) (x1).toNat)) ∧ (((I (σ + 1) (x1).toNat) ≠ 0 → (0 ≤ u9) ∧ (u9 < 36) ∧ (∀ I18 : MM, I18 = up2 I (q + 2) (u9).toNat x4 → (0 ≤ x4) ∧ (x4 < 36) ∧ (∀ I21 : MM, I21 = up2 I18 (q + 3) (u9).toNat ((I18 ((q + 8) + 1) (x4).toNat) + x3) → XM Γ m_X2_setArcs 0 0 21 [(0, vR q), (1, vI x1), (2, vR σ), (3, vI x3), (4, vI u9), (5, vI (x5 + 1))] [] P I21 (rv P R)))) ∧ ((I (σ + 1) (x1).toNat) = 0 → (Cl Γ m_X4_isLast [vR σ, vI x4] P I (ri P (fun (z22 : Int) (I23 : MM) => (inR z22) ∧ ((z22 = 0 → (0 ≤ u9) ∧ (u9 < 36) ∧ (∀ I29 : MM, I29 = up2 I23 (q + 2) (u9).toNat (x4 + 1) → (∀ I30 : MM, I30 = up2 I29 (q + 3) (u9).toNat x3 → XM Γ m_X2_setArcs 0 0 21 [(0, vR q), (1, vI x1), (2, vR σ), (3, vI x3), (4, vI u9), (5, vI (x5 + 1))] [] P I30 (rv P R)))) ∧ (¬ z22 = 0 → (0 ≤ u9) ∧ (u9 < 36) ∧ (∀ I33 : MM, I33 = up2 I23 (q + 2) (u9).toNat x4 → (0 ≤ x4) ∧ (x4 < 36) ∧ (∀ I36 : MM, I36 = up2 I33 (q + 3) (u9).toNat ((I33 ((q + 8) + 1) (x4).toNat) + x3) → XM Γ m_X2_setArcs 0 0 21 [(0, vR q), (1, vI x1), (2, vR σ), (3, vI x3), (4, vI u9), (5, vI (x5 + 1))] [] P I36 (rv P R))))))))))) ∧ (¬ 0 ≤ x4 → (0 ≤ u9) ∧ (u9 < 36) ∧ (∀ I39 : MM, I39 = up2 I (q + 2) (u9).toNat (-1) → XM Γ m_X2_setArcs 0 0 21 [(0, vR q), (1, vI x1), (2, vR σ), (3, vI x3), (4, vI u9), (5, vI (x5 + 1))] [] P I39 (rv P R)))))))) :
    XM Γ m_X2_setArcs 0 0 21 [(0, vR q), (1, vI x1), (2, vR σ), (3, vI x3), (4, vI x4), (5, vI x5)] [] P I (rv P R) := by
  refine x_iload (pc := 21) 5 dX2_setArcs_21 rfl ?_
  refine x_aload_n (pc := 23) 2 dX2_setArcs_23 rfl ?_
  refine x_getP (pc := 24) dX2_setArcs_24 FC4 5 (by decide) rfl fl_X2_78 (LShop_ob (LPlan_s (LSch_p hs))) (LShop_p5 (LPlan_s (LSch_p hs))) ?_
  refine x_iload_n (pc := 27) 1 dX2_setArcs_27 rfl ?_
  obtain ⟨hv1, h⟩ := h
  obtain ⟨hv2, h⟩ := h
  refine x_iald (pc := 28) dX2_setArcs_28 (LShop_a5 (LPlan_s (LSch_p hs))) hv1 hv2 (by decide) ?_
  obtain ⟨hr3, h⟩ := h
  obtain ⟨hr4, h⟩ := h
  obtain ⟨hA5, hB6⟩ := h
  refine x_icmp_ge (pc := 29) 143 dX2_setArcs_29 (by decide) hr3 hr4 (fun hc => ?_) (fun hc => ?_)
  · have h := hA5 hc
    exact x_vret (pc := 143) dX2_setArcs_143 rfl (Nat.le_refl _) (Nat.le_refl _) ⟨rfl, rfl, h⟩
  · have h := hB6 hc
    refine x_aload_n (pc := 32) 0 dX2_setArcs_32 rfl ?_
    refine x_getP (pc := 33) dX2_setArcs_33 FC2 0 (by decide) rfl fl_X2_44 (LSch_ob hs) (LSch_p0 hs) ?_
    refine x_getP (pc := 36) dX2_setArcs_36 FC1 2 (by decide) rfl fl_X2_81 (LPlan_ob (LSch_p hs)) (LPlan_p2 (LSch_p hs)) ?_
    refine x_iload_n (pc := 39) 1 dX2_setArcs_39 rfl ?_
    refine x_bipush (pc := 40) dX2_setArcs_40 rfl ?_
    refine x_imul (pc := 42) dX2_setArcs_42 ?_
    refine x_iload (pc := 43) 5 dX2_setArcs_43 rfl ?_
    refine x_iadd (pc := 45) dX2_setArcs_45 ?_
    obtain ⟨hv7, h⟩ := h
    obtain ⟨hv8, h⟩ := h
    refine x_iald (pc := 46) dX2_setArcs_46 (LPlan_a2 (LSch_p hs)) hv7 hv8 (by decide) ?_
    refine x_nmT (fun u9 eu9 => ?_)
    have h := h u9 eu9
    refine x_istore (pc := 47) (al' := [(0, vR q), (1, vI x1), (2, vR σ), (3, vI x3), (4, vI x4), (5, vI x5), (6, vI u9)]) dX2_setArcs_47 rfl rfl (Nat.le_of_ble_eq_true rfl) ?_
    refine x_iload (pc := 49) 4 dX2_setArcs_49 rfl ?_
    obtain ⟨hr10, h⟩ := h
    obtain ⟨hA11, hB12⟩ := h
    refine x_if_ge (pc := 51) 65 dX2_setArcs_51 (by decide) hr10 (fun hc => ?_) (fun hc => ?_)
    · have h := hA11 hc
      refine x_aload_n (pc := 65) 2 dX2_setArcs_65 rfl ?_
      refine x_getP (pc := 66) dX2_setArcs_66 FC4 3 (by decide) rfl fl_X2_84 (LShop_ob (LPlan_s (LSch_p hs))) (LShop_p3 (LPlan_s (LSch_p hs))) ?_
      refine x_iload_n (pc := 69) 1 dX2_setArcs_69 rfl ?_
      refine x_zald (pc := 70) dX2_setArcs_70 (LShop_a3 (LPlan_s (LSch_p hs))) hv1 hv2 (by decide) ?_
      obtain ⟨hr13, h⟩ := h
      obtain ⟨hA14, hB15⟩ := h
      refine x_if_ne (pc := 71) 83 dX2_setArcs_71 (by decide) hr13 (fun hc => ?_) (fun hc => ?_)
      · have h := hA14 hc
        refine x_aload_n (pc := 83) 0 dX2_setArcs_83 rfl ?_
        refine x_getP (pc := 84) dX2_setArcs_84 FC2 2 (by decide) rfl fl_X2_15 (LSch_ob hs) (LSch_p2 hs) ?_
        refine x_iload (pc := 87) 6 dX2_setArcs_87 rfl ?_
        refine x_iload (pc := 89) 4 dX2_setArcs_89 rfl ?_
        obtain ⟨hv16, h⟩ := h
        obtain ⟨hv17, h⟩ := h
        refine x_iast (pc := 91) dX2_setArcs_91 (LSch_a2 hs) hv16 hv17 (by decide) ?_
        refine x_nmI (fun I18 eI18 => ?_)
        have h := h I18 eI18
        refine x_aload_n (pc := 92) 0 dX2_setArcs_92 rfl ?_
        refine x_getP (pc := 93) dX2_setArcs_93 FC2 3 (by decide) rfl fl_X2_18 (LSch_ob hs) (LSch_p3 hs) ?_
        refine x_iload (pc := 96) 6 dX2_setArcs_96 rfl ?_
        refine x_aload_n (pc := 98) 0 dX2_setArcs_98 rfl ?_
        refine x_getP (pc := 99) dX2_setArcs_99 FC2 0 (by decide) rfl fl_X2_44 (LSch_ob hs) (LSch_p0 hs) ?_
        refine x_getP (pc := 102) dX2_setArcs_102 FC1 1 (by decide) rfl fl_X2_91 (LPlan_ob (LSch_p hs)) (LPlan_p1 (LSch_p hs)) ?_
        refine x_iload (pc := 105) 4 dX2_setArcs_105 rfl ?_
        obtain ⟨hv19, h⟩ := h
        obtain ⟨hv20, h⟩ := h
        refine x_iald (pc := 107) dX2_setArcs_107 (LPlan_a1 (LSch_p hs)) hv19 hv20 (by decide) ?_
        refine x_iload_n (pc := 108) 3 dX2_setArcs_108 rfl ?_
        refine x_iadd (pc := 109) dX2_setArcs_109 ?_
        refine x_iast (pc := 110) dX2_setArcs_110 (LSch_a3 hs) hv16 hv17 (by decide) ?_
        refine x_nmI (fun I21 eI21 => ?_)
        have h := h I21 eI21
        refine x_goto (pc := 111) 133 dX2_setArcs_111 (by decide) ?_
        refine x_iload (pc := 133) 6 dX2_setArcs_133 rfl ?_
        refine x_istore (pc := 135) (al' := [(0, vR q), (1, vI x1), (2, vR σ), (3, vI x3), (4, vI u9), (5, vI x5), (6, vI u9)]) dX2_setArcs_135 rfl rfl (Nat.le_of_ble_eq_true rfl) ?_
        refine x_iinc (pc := 137) (al' := [(0, vR q), (1, vI x1), (2, vR σ), (3, vI x3), (4, vI u9), (5, vI (x5 + 1)), (6, vI u9)]) 5 dX2_setArcs_137 rfl rfl rfl (Nat.le_of_ble_eq_true rfl) ?_
        refine x_goto (pc := 140) 21 dX2_setArcs_140 (by decide) ?_
        exact x_sub [0, 1, 2, 3, 4, 5] rfl h
      · have h := hB15 hc
        refine x_aload_n (pc := 74) 2 dX2_setArcs_74 rfl ?_
        refine x_iload (pc := 75) 4 dX2_setArcs_75 rfl ?_
        refine x_Vi (μ := m_X2_setArcs) (pc := 77) dX2_setArcs_77 h k_X4_isLast ml_X2_87 ⟨Nat.le_of_ble_eq_true rfl, Nat.le_of_ble_eq_true rfl⟩ ⟨rfl, rfl⟩ ⟨Nat.zero_le _, Nat.zero_le _⟩ rfl (LShop_ob (LPlan_s (LSch_p hs))) rfl (Nat.le_of_ble_eq_true rfl) _ rfl (fun z22 I23 h => ?_)
        obtain ⟨hr24, h⟩ := h
        obtain ⟨hA25, hB26⟩ := h
        refine x_if_eq (pc := 80) 114 dX2_setArcs_80 (by decide) hr24 (fun hc => ?_) (fun hc => ?_)
        · have h := hA25 hc
          refine x_aload_n (pc := 114) 0 dX2_setArcs_114 rfl ?_
          refine x_getP (pc := 115) dX2_setArcs_115 FC2 2 (by decide) rfl fl_X2_15 (LSch_ob hs) (LSch_p2 hs) ?_
          refine x_iload (pc := 118) 6 dX2_setArcs_118 rfl ?_
          refine x_iload (pc := 120) 4 dX2_setArcs_120 rfl ?_
          refine x_iconst (pc := 122) dX2_setArcs_122 ?_
          refine x_iadd (pc := 123) dX2_setArcs_123 ?_
          obtain ⟨hv27, h⟩ := h
          obtain ⟨hv28, h⟩ := h
          refine x_iast (pc := 124) dX2_setArcs_124 (LSch_a2 hs) hv27 hv28 (by decide) ?_
          refine x_nmI (fun I29 eI29 => ?_)
          have h := h I29 eI29
          refine x_aload_n (pc := 125) 0 dX2_setArcs_125 rfl ?_
          refine x_getP (pc := 126) dX2_setArcs_126 FC2 3 (by decide) rfl fl_X2_18 (LSch_ob hs) (LSch_p3 hs) ?_
          refine x_iload (pc := 129) 6 dX2_setArcs_129 rfl ?_
          refine x_iload_n (pc := 131) 3 dX2_setArcs_131 rfl ?_
          refine x_iast (pc := 132) dX2_setArcs_132 (LSch_a3 hs) hv27 hv28 (by decide) ?_
          refine x_nmI (fun I30 eI30 => ?_)
          have h := h I30 eI30
          refine x_iload (pc := 133) 6 dX2_setArcs_133 rfl ?_
          refine x_istore (pc := 135) (al' := [(0, vR q), (1, vI x1), (2, vR σ), (3, vI x3), (4, vI u9), (5, vI x5), (6, vI u9)]) dX2_setArcs_135 rfl rfl (Nat.le_of_ble_eq_true rfl) ?_
          refine x_iinc (pc := 137) (al' := [(0, vR q), (1, vI x1), (2, vR σ), (3, vI x3), (4, vI u9), (5, vI (x5 + 1)), (6, vI u9)]) 5 dX2_setArcs_137 rfl rfl rfl (Nat.le_of_ble_eq_true rfl) ?_
          refine x_goto (pc := 140) 21 dX2_setArcs_140 (by decide) ?_
          exact x_sub [0, 1, 2, 3, 4, 5] rfl h
        · have h := hB26 hc
          refine x_aload_n (pc := 83) 0 dX2_setArcs_83 rfl ?_
          refine x_getP (pc := 84) dX2_setArcs_84 FC2 2 (by decide) rfl fl_X2_15 (LSch_ob hs) (LSch_p2 hs) ?_
          refine x_iload (pc := 87) 6 dX2_setArcs_87 rfl ?_
          refine x_iload (pc := 89) 4 dX2_setArcs_89 rfl ?_
          obtain ⟨hv31, h⟩ := h
          obtain ⟨hv32, h⟩ := h
          refine x_iast (pc := 91) dX2_setArcs_91 (LSch_a2 hs) hv31 hv32 (by decide) ?_
          refine x_nmI (fun I33 eI33 => ?_)
          have h := h I33 eI33
          refine x_aload_n (pc := 92) 0 dX2_setArcs_92 rfl ?_
          refine x_getP (pc := 93) dX2_setArcs_93 FC2 3 (by decide) rfl fl_X2_18 (LSch_ob hs) (LSch_p3 hs) ?_
          refine x_iload (pc := 96) 6 dX2_setArcs_96 rfl ?_
          refine x_aload_n (pc := 98) 0 dX2_setArcs_98 rfl ?_
          refine x_getP (pc := 99) dX2_setArcs_99 FC2 0 (by decide) rfl fl_X2_44 (LSch_ob hs) (LSch_p0 hs) ?_
          refine x_getP (pc := 102) dX2_setArcs_102 FC1 1 (by decide) rfl fl_X2_91 (LPlan_ob (LSch_p hs)) (LPlan_p1 (LSch_p hs)) ?_
          refine x_iload (pc := 105) 4 dX2_setArcs_105 rfl ?_
          obtain ⟨hv34, h⟩ := h
          obtain ⟨hv35, h⟩ := h
          refine x_iald (pc := 107) dX2_setArcs_107 (LPlan_a1 (LSch_p hs)) hv34 hv35 (by decide) ?_
          refine x_iload_n (pc := 108) 3 dX2_setArcs_108 rfl ?_
          refine x_iadd (pc := 109) dX2_setArcs_109 ?_
          refine x_iast (pc := 110) dX2_setArcs_110 (LSch_a3 hs) hv31 hv32 (by decide) ?_
          refine x_nmI (fun I36 eI36 => ?_)
          have h := h I36 eI36
          refine x_goto (pc := 111) 133 dX2_setArcs_111 (by decide) ?_
          refine x_iload (pc := 133) 6 dX2_setArcs_133 rfl ?_
          refine x_istore (pc := 135) (al' := [(0, vR q), (1, vI x1), (2, vR σ), (3, vI x3), (4, vI u9), (5, vI x5), (6, vI u9)]) dX2_setArcs_135 rfl rfl (Nat.le_of_ble_eq_true rfl) ?_
          refine x_iinc (pc := 137) (al' := [(0, vR q), (1, vI x1), (2, vR σ), (3, vI x3), (4, vI u9), (5, vI (x5 + 1)), (6, vI u9)]) 5 dX2_setArcs_137 rfl rfl rfl (Nat.le_of_ble_eq_true rfl) ?_
          refine x_goto (pc := 140) 21 dX2_setArcs_140 (by decide) ?_
          exact x_sub [0, 1, 2, 3, 4, 5] rfl h
    · have h := hB12 hc
      refine x_aload_n (pc := 54) 0 dX2_setArcs_54 rfl ?_
      refine x_getP (pc := 55) dX2_setArcs_55 FC2 2 (by decide) rfl fl_X2_15 (LSch_ob hs) (LSch_p2 hs) ?_
      refine x_iload (pc := 58) 6 dX2_setArcs_58 rfl ?_
      refine x_iconst (pc := 60) dX2_setArcs_60 ?_
      obtain ⟨hv37, h⟩ := h
      obtain ⟨hv38, h⟩ := h
      refine x_iast (pc := 61) dX2_setArcs_61 (LSch_a2 hs) hv37 hv38 (by decide) ?_
      refine x_nmI (fun I39 eI39 => ?_)
      have h := h I39 eI39
      refine x_goto (pc := 62) 133 dX2_setArcs_62 (by decide) ?_
      refine x_iload (pc := 133) 6 dX2_setArcs_133 rfl ?_
      refine x_istore (pc := 135) (al' := [(0, vR q), (1, vI x1), (2, vR σ), (3, vI x3), (4, vI u9), (5, vI x5), (6, vI u9)]) dX2_setArcs_135 rfl rfl (Nat.le_of_ble_eq_true rfl) ?_
      refine x_iinc (pc := 137) (al' := [(0, vR q), (1, vI x1), (2, vR σ), (3, vI x3), (4, vI u9), (5, vI (x5 + 1)), (6, vI u9)]) 5 dX2_setArcs_137 rfl rfl rfl (Nat.le_of_ble_eq_true rfl) ?_
      refine x_goto (pc := 140) 21 dX2_setArcs_140 (by decide) ?_
      exact x_sub [0, 1, 2, 3, 4, 5] rfl h
set_option maxRecDepth 100000 in
set_option maxHeartbeats 4000000 in
theorem t_X2_unsettleAll_0 {Γ : GG} {P : MP} {I : MM} {R : Int → MM → Prop} {q σ κ n : Nat} (hs : LSch Γ P q σ κ n)
    (h : XM Γ m_X2_unsettleAll 0 0 4 [(0, vR q), (1, vI 0), (2, vI 0)] [] P I (ri P R)) :
    XM Γ m_X2_unsettleAll 0 0 0 [(0, vR q)] [] P I (ri P R) := by
  refine x_iconst (pc := 0) dX2_unsettleAll_0 ?_
  refine x_istore_n (pc := 1) (al' := [(0, vR q), (1, vI 0)]) dX2_unsettleAll_1 rfl rfl (Nat.le_of_ble_eq_true rfl) ?_
  refine x_iconst (pc := 2) dX2_unsettleAll_2 ?_
  refine x_istore_n (pc := 3) (al' := [(0, vR q), (1, vI 0), (2, vI 0)]) dX2_unsettleAll_3 rfl rfl (Nat.le_of_ble_eq_true rfl) ?_
  exact x_sub [0, 1, 2] rfl h
set_option maxRecDepth 100000 in
set_option maxHeartbeats 4000000 in
theorem t_X2_unsettleAll_4 {Γ : GG} {P : MP} {I : MM} {R : Int → MM → Prop} {x1 x2 : Int} {q σ κ n : Nat} (hs : LSch Γ P q σ κ n)
    (h : (inR x2) ∧ (inR (I σ 1)) ∧ (((I σ 1) ≤ x2 → R x1 I) ∧ (¬ (I σ 1) ≤ x2 → XM Γ m_X2_unsettleAll 0 0 20 [(0, vR q), (1, vI x1), (2, vI x2), (3, vI 0)] [] P I (ri P R)))) :
    XM Γ m_X2_unsettleAll 0 0 4 [(0, vR q), (1, vI x1), (2, vI x2)] [] P I (ri P R) := by
  refine x_iload_n (pc := 4) 2 dX2_unsettleAll_4 rfl ?_
  refine x_aload_n (pc := 5) 0 dX2_unsettleAll_5 rfl ?_
  refine x_getP (pc := 6) dX2_unsettleAll_6 FC2 0 (by decide) rfl fl_X2_44 (LSch_ob hs) (LSch_p0 hs) ?_
  refine x_getP (pc := 9) dX2_unsettleAll_9 FC1 0 (by decide) rfl fl_X2_48 (LPlan_ob (LSch_p hs)) (LPlan_p0 (LSch_p hs)) ?_
  refine x_getI (pc := 12) dX2_unsettleAll_12 FC4 1 (by decide) rfl fl_X2_94 (LShop_ob (LPlan_s (LSch_p hs))) ?_
  obtain ⟨hr1, h⟩ := h
  obtain ⟨hr2, h⟩ := h
  obtain ⟨hA3, hB4⟩ := h
  refine x_icmp_ge (pc := 15) 85 dX2_unsettleAll_15 (by decide) hr1 hr2 (fun hc => ?_) (fun hc => ?_)
  · have h := hA3 hc
    refine x_iload_n (pc := 85) 1 dX2_unsettleAll_85 rfl ?_
    exact x_iret (pc := 86) dX2_unsettleAll_86 rfl (Nat.le_refl _) (Nat.le_refl _) ⟨_, rfl, rfl, h⟩
  · have h := hB4 hc
    refine x_iconst (pc := 18) dX2_unsettleAll_18 ?_
    refine x_istore_n (pc := 19) (al' := [(0, vR q), (1, vI x1), (2, vI x2), (3, vI 0)]) dX2_unsettleAll_19 rfl rfl (Nat.le_of_ble_eq_true rfl) ?_
    exact x_sub [0, 1, 2, 3] rfl h
set_option maxRecDepth 100000 in
set_option maxHeartbeats 4000000 in
theorem t_X2_unsettleAll_20 {Γ : GG} {P : MP} {I : MM} {R : Int → MM → Prop} {x1 x2 x3 : Int} {q σ κ n : Nat} (hs : LSch Γ P q σ κ n)
    (h : (0 ≤ x2) ∧ (x2 < 6) ∧ (inR x3) ∧ (inR (I (σ + 7) (x2).toNat)) ∧ (((I (σ + 7) (x2).toNat) ≤ x3 → XM Γ m_X2_unsettleAll 0 0 4 [(0, vR q), (1, vI x1), (2, vI (x2 + 1))] [] P I (ri P R)) ∧ (¬ (I (σ + 7) (x2).toNat) ≤ x3 → (Cl Γ m_X5_idOf [vI x2, vI x3] P I (ri P (fun (z7 : Int) (I8 : MM) => (0 ≤ z7) ∧ (z7 < 36) ∧ (∀ I11 : MM, I11 = up2 I8 (q + 4) (z7).toNat 0 → (∀ I12 : MM, I12 = up2 I11 (q + 1) (z7).toNat (I11 (σ + 4) (x2).toNat) → XM Γ m_X2_unsettleAll 0 0 20 [(0, vR q), (1, vI (x1 + 1)), (2, vI x2), (3, vI (x3 + 1))] [] P I12 (ri P R))))))))) :
    XM Γ m_X2_unsettleAll 0 0 20 [(0, vR q), (1, vI x1), (2, vI x2), (3, vI x3)] [] P I (ri P R) := by
  refine x_iload_n (pc := 20) 3 dX2_unsettleAll_20 rfl ?_
  refine x_aload_n (pc := 21) 0 dX2_unsettleAll_21 rfl ?_
  refine x_getP (pc := 22) dX2_unsettleAll_22 FC2 0 (by decide) rfl fl_X2_44 (LSch_ob hs) (LSch_p0 hs) ?_
  refine x_getP (pc := 25) dX2_unsettleAll_25 FC1 0 (by decide) rfl fl_X2_48 (LPlan_ob (LSch_p hs)) (LPlan_p0 (LSch_p hs)) ?_
  refine x_getP (pc := 28) dX2_unsettleAll_28 FC4 9 (by decide) rfl fl_X2_97 (LShop_ob (LPlan_s (LSch_p hs))) (LShop_p9 (LPlan_s (LSch_p hs))) ?_
  refine x_iload_n (pc := 31) 2 dX2_unsettleAll_31 rfl ?_
  obtain ⟨hv1, h⟩ := h
  obtain ⟨hv2, h⟩ := h
  refine x_iald (pc := 32) dX2_unsettleAll_32 (LShop_a9 (LPlan_s (LSch_p hs))) hv1 hv2 (by decide) ?_
  obtain ⟨hr3, h⟩ := h
  obtain ⟨hr4, h⟩ := h
  obtain ⟨hA5, hB6⟩ := h
  refine x_icmp_ge (pc := 33) 79 dX2_unsettleAll_33 (by decide) hr3 hr4 (fun hc => ?_) (fun hc => ?_)
  · have h := hA5 hc
    refine x_iinc (pc := 79) (al' := [(0, vR q), (1, vI x1), (2, vI (x2 + 1)), (3, vI x3)]) 2 dX2_unsettleAll_79 rfl rfl rfl (Nat.le_of_ble_eq_true rfl) ?_
    refine x_goto (pc := 82) 4 dX2_unsettleAll_82 (by decide) ?_
    exact x_sub [0, 1, 2] rfl h
  · have h := hB6 hc
    refine x_iload_n (pc := 36) 2 dX2_unsettleAll_36 rfl ?_
    refine x_iload_n (pc := 37) 3 dX2_unsettleAll_37 rfl ?_
    refine x_Ni (μ := m_X2_unsettleAll) (pc := 38) "BlockingShop" dX2_unsettleAll_38 h k_X5_idOf (by decide +kernel) ⟨Nat.le_of_ble_eq_true rfl, Nat.le_of_ble_eq_true rfl⟩ ⟨rfl, rfl⟩ ⟨Nat.zero_le _, Nat.zero_le _⟩ rfl (Nat.le_of_ble_eq_true rfl) _ rfl (fun z7 I8 h => ?_)
    refine x_istore (pc := 41) (al' := [(0, vR q), (1, vI x1), (2, vI x2), (3, vI x3), (4, vI z7)]) dX2_unsettleAll_41 rfl rfl (Nat.le_of_ble_eq_true rfl) ?_
    refine x_aload_n (pc := 43) 0 dX2_unsettleAll_43 rfl ?_
    refine x_getP (pc := 44) dX2_unsettleAll_44 FC2 4 (by decide) rfl fl_X2_21 (LSch_ob hs) (LSch_p4 hs) ?_
    refine x_iload (pc := 47) 4 dX2_unsettleAll_47 rfl ?_
    refine x_iconst (pc := 49) dX2_unsettleAll_49 ?_
    obtain ⟨hv9, h⟩ := h
    obtain ⟨hv10, h⟩ := h
    refine x_zast (pc := 50) dX2_unsettleAll_50 (LSch_a4 hs) hv9 hv10 (by decide) (by decide) ?_
    refine x_nmI (fun I11 eI11 => ?_)
    have h := h I11 eI11
    refine x_aload_n (pc := 51) 0 dX2_unsettleAll_51 rfl ?_
    refine x_getP (pc := 52) dX2_unsettleAll_52 FC2 1 (by decide) rfl fl_X2_9 (LSch_ob hs) (LSch_p1 hs) ?_
    refine x_iload (pc := 55) 4 dX2_unsettleAll_55 rfl ?_
    refine x_aload_n (pc := 57) 0 dX2_unsettleAll_57 rfl ?_
    refine x_getP (pc := 58) dX2_unsettleAll_58 FC2 0 (by decide) rfl fl_X2_44 (LSch_ob hs) (LSch_p0 hs) ?_
    refine x_getP (pc := 61) dX2_unsettleAll_61 FC1 0 (by decide) rfl fl_X2_48 (LPlan_ob (LSch_p hs)) (LPlan_p0 (LSch_p hs)) ?_
    refine x_getP (pc := 64) dX2_unsettleAll_64 FC4 6 (by decide) rfl fl_X2_104 (LShop_ob (LPlan_s (LSch_p hs))) (LShop_p6 (LPlan_s (LSch_p hs))) ?_
    refine x_iload_n (pc := 67) 2 dX2_unsettleAll_67 rfl ?_
    refine x_iald (pc := 68) dX2_unsettleAll_68 (LShop_a6 (LPlan_s (LSch_p hs))) hv1 hv2 (by decide) ?_
    refine x_iast (pc := 69) dX2_unsettleAll_69 (LSch_a1 hs) hv9 hv10 (by decide) ?_
    refine x_nmI (fun I12 eI12 => ?_)
    have h := h I12 eI12
    refine x_iinc (pc := 70) (al' := [(0, vR q), (1, vI (x1 + 1)), (2, vI x2), (3, vI x3), (4, vI z7)]) 1 dX2_unsettleAll_70 rfl rfl rfl (Nat.le_of_ble_eq_true rfl) ?_
    refine x_iinc (pc := 73) (al' := [(0, vR q), (1, vI (x1 + 1)), (2, vI x2), (3, vI (x3 + 1)), (4, vI z7)]) 3 dX2_unsettleAll_73 rfl rfl rfl (Nat.le_of_ble_eq_true rfl) ?_
    refine x_goto (pc := 76) 20 dX2_unsettleAll_76 (by decide) ?_
    exact x_sub [0, 1, 2, 3] rfl h
set_option maxRecDepth 100000 in
set_option maxHeartbeats 4000000 in
theorem t_X2_settleSome_0 {Γ : GG} {P : MP} {I : MM} {R : Int → MM → Prop} {q σ κ n : Nat} (hs : LSch Γ P q σ κ n)
    (h : XM Γ m_X2_settleSome 0 0 4 [(0, vR q), (1, vI 0), (2, vI 0)] [] P I (ri P R)) :
    XM Γ m_X2_settleSome 0 0 0 [(0, vR q)] [] P I (ri P R) := by
  refine x_iconst (pc := 0) dX2_settleSome_0 ?_
  refine x_istore_n (pc := 1) (al' := [(0, vR q), (1, vI 0)]) dX2_settleSome_1 rfl rfl (Nat.le_of_ble_eq_true rfl) ?_
  refine x_iconst (pc := 2) dX2_settleSome_2 ?_
  refine x_istore_n (pc := 3) (al' := [(0, vR q), (1, vI 0), (2, vI 0)]) dX2_settleSome_3 rfl rfl (Nat.le_of_ble_eq_true rfl) ?_
  exact x_sub [0, 1, 2] rfl h
set_option maxRecDepth 100000 in
set_option maxHeartbeats 4000000 in
theorem t_X2_settleSome_4 {Γ : GG} {P : MP} {I : MM} {R : Int → MM → Prop} {x1 x2 : Int} {q σ κ n : Nat} (hs : LSch Γ P q σ κ n)
    (h : (inR x2) ∧ (inR (I σ 1)) ∧ (((I σ 1) ≤ x2 → R x1 I) ∧ (¬ (I σ 1) ≤ x2 → XM Γ m_X2_settleSome 0 0 20 [(0, vR q), (1, vI x1), (2, vI x2), (3, vI 0)] [] P I (ri P R)))) :
    XM Γ m_X2_settleSome 0 0 4 [(0, vR q), (1, vI x1), (2, vI x2)] [] P I (ri P R) := by
  refine x_iload_n (pc := 4) 2 dX2_settleSome_4 rfl ?_
  refine x_aload_n (pc := 5) 0 dX2_settleSome_5 rfl ?_
  refine x_getP (pc := 6) dX2_settleSome_6 FC2 0 (by decide) rfl fl_X2_44 (LSch_ob hs) (LSch_p0 hs) ?_
  refine x_getP (pc := 9) dX2_settleSome_9 FC1 0 (by decide) rfl fl_X2_48 (LPlan_ob (LSch_p hs)) (LPlan_p0 (LSch_p hs)) ?_
  refine x_getI (pc := 12) dX2_settleSome_12 FC4 1 (by decide) rfl fl_X2_94 (LShop_ob (LPlan_s (LSch_p hs))) ?_
  obtain ⟨hr1, h⟩ := h
  obtain ⟨hr2, h⟩ := h
  obtain ⟨hA3, hB4⟩ := h
  refine x_icmp_ge (pc := 15) 98 dX2_settleSome_15 (by decide) hr1 hr2 (fun hc => ?_) (fun hc => ?_)
  · have h := hA3 hc
    refine x_iload_n (pc := 98) 1 dX2_settleSome_98 rfl ?_
    exact x_iret (pc := 99) dX2_settleSome_99 rfl (Nat.le_refl _) (Nat.le_refl _) ⟨_, rfl, rfl, h⟩
  · have h := hB4 hc
    refine x_iconst (pc := 18) dX2_settleSome_18 ?_
    refine x_istore_n (pc := 19) (al' := [(0, vR q), (1, vI x1), (2, vI x2), (3, vI 0)]) dX2_settleSome_19 rfl rfl (Nat.le_of_ble_eq_true rfl) ?_
    exact x_sub [0, 1, 2, 3] rfl h
set_option maxRecDepth 100000 in
set_option maxHeartbeats 4000000 in
theorem t_X2_settleSome_20 {Γ : GG} {P : MP} {I : MM} {R : Int → MM → Prop} {x1 x2 x3 : Int} {q σ κ n : Nat} (hs : LSch Γ P q σ κ n)
    (h : (0 ≤ x2) ∧ (x2 < 6) ∧ (inR x3) ∧ (inR (I (σ + 7) (x2).toNat)) ∧ (((I (σ + 7) (x2).toNat) ≤ x3 → XM Γ m_X2_settleSome 0 0 4 [(0, vR q), (1, vI x1), (2, vI (x2 + 1))] [] P I (ri P R)) ∧ (¬ (I (σ + 7) (x2).toNat) ≤ x3 → (Cl Γ m_X5_idOf [vI x2, vI x3] P I (ri P (fun (z7 : Int) (I8 : MM) => (0 ≤ z7) ∧ (z7 < 36) ∧ (inR (I8 (q + 4) (z7).toNat)) ∧ (((I8 (q + 4) (z7).toNat) ≠ 0 → XM Γ m_X2_settleSome 0 0 20 [(0, vR q), (1, vI x1), (2, vI x2), (3, vI (x3 + 1))] [] P I8 (ri P R)) ∧ ((I8 (q + 4) (z7).toNat) = 0 → (Cl Γ m_X2_isReady [vR q, vI z7] P I8 (ri P (fun (z14 : Int) (I15 : MM) => (inR z14) ∧ ((z14 = 0 → XM Γ m_X2_settleSome 0 0 20 [(0, vR q), (1, vI x1), (2, vI x2), (3, vI (x3 + 1))] [] P I15 (ri P R)) ∧ (¬ z14 = 0 → (Cl Γ m_X2_earliestStart [vR q, vI z7] P I15 (ri P (fun (z19 : Int) (I20 : MM) => (∀ I21 : MM, I21 = up2 I20 (q + 1) (z7).toNat z19 → (∀ I22 : MM, I22 = up2 I21 (q + 4) (z7).toNat 1 → XM Γ m_X2_settleSome 0 0 20 [(0, vR q), (1, vI (x1 + 1)), (2, vI x2), (3, vI (x3 + 1))] [] P I22 (ri P R))))))))))))))))))) :
    XM Γ m_X2_settleSome 0 0 20 [(0, vR q), (1, vI x1), (2, vI x2), (3, vI x3)] [] P I (ri P R) := by
  refine x_iload_n (pc := 20) 3 dX2_settleSome_20 rfl ?_
  refine x_aload_n (pc := 21) 0 dX2_settleSome_21 rfl ?_
  refine x_getP (pc := 22) dX2_settleSome_22 FC2 0 (by decide) rfl fl_X2_44 (LSch_ob hs) (LSch_p0 hs) ?_
  refine x_getP (pc := 25) dX2_settleSome_25 FC1 0 (by decide) rfl fl_X2_48 (LPlan_ob (LSch_p hs)) (LPlan_p0 (LSch_p hs)) ?_
  refine x_getP (pc := 28) dX2_settleSome_28 FC4 9 (by decide) rfl fl_X2_97 (LShop_ob (LPlan_s (LSch_p hs))) (LShop_p9 (LPlan_s (LSch_p hs))) ?_
  refine x_iload_n (pc := 31) 2 dX2_settleSome_31 rfl ?_
  obtain ⟨hv1, h⟩ := h
  obtain ⟨hv2, h⟩ := h
  refine x_iald (pc := 32) dX2_settleSome_32 (LShop_a9 (LPlan_s (LSch_p hs))) hv1 hv2 (by decide) ?_
  obtain ⟨hr3, h⟩ := h
  obtain ⟨hr4, h⟩ := h
  obtain ⟨hA5, hB6⟩ := h
  refine x_icmp_ge (pc := 33) 92 dX2_settleSome_33 (by decide) hr3 hr4 (fun hc => ?_) (fun hc => ?_)
  · have h := hA5 hc
    refine x_iinc (pc := 92) (al' := [(0, vR q), (1, vI x1), (2, vI (x2 + 1)), (3, vI x3)]) 2 dX2_settleSome_92 rfl rfl rfl (Nat.le_of_ble_eq_true rfl) ?_
    refine x_goto (pc := 95) 4 dX2_settleSome_95 (by decide) ?_
    exact x_sub [0, 1, 2] rfl h
  · have h := hB6 hc
    refine x_iload_n (pc := 36) 2 dX2_settleSome_36 rfl ?_
    refine x_iload_n (pc := 37) 3 dX2_settleSome_37 rfl ?_
    refine x_Ni (μ := m_X2_settleSome) (pc := 38) "BlockingShop" dX2_settleSome_38 h k_X5_idOf (by decide +kernel) ⟨Nat.le_of_ble_eq_true rfl, Nat.le_of_ble_eq_true rfl⟩ ⟨rfl, rfl⟩ ⟨Nat.zero_le _, Nat.zero_le _⟩ rfl (Nat.le_of_ble_eq_true rfl) _ rfl (fun z7 I8 h => ?_)
    refine x_istore (pc := 41) (al' := [(0, vR q), (1, vI x1), (2, vI x2), (3, vI x3), (4, vI z7)]) dX2_settleSome_41 rfl rfl (Nat.le_of_ble_eq_true rfl) ?_
    refine x_aload_n (pc := 43) 0 dX2_settleSome_43 rfl ?_
    refine x_getP (pc := 44) dX2_settleSome_44 FC2 4 (by decide) rfl fl_X2_21 (LSch_ob hs) (LSch_p4 hs) ?_
    refine x_iload (pc := 47) 4 dX2_settleSome_47 rfl ?_
    obtain ⟨hv9, h⟩ := h
    obtain ⟨hv10, h⟩ := h
    refine x_zald (pc := 49) dX2_settleSome_49 (LSch_a4 hs) hv9 hv10 (by decide) ?_
    obtain ⟨hr11, h⟩ := h
    obtain ⟨hA12, hB13⟩ := h
    refine x_if_ne (pc := 50) 86 dX2_settleSome_50 (by decide) hr11 (fun hc => ?_) (fun hc => ?_)
    · have h := hA12 hc
      refine x_iinc (pc := 86) (al' := [(0, vR q), (1, vI x1), (2, vI x2), (3, vI (x3 + 1)), (4, vI z7)]) 3 dX2_settleSome_86 rfl rfl rfl (Nat.le_of_ble_eq_true rfl) ?_
      refine x_goto (pc := 89) 20 dX2_settleSome_89 (by decide) ?_
      exact x_sub [0, 1, 2, 3] rfl h
    · have h := hB13 hc
      refine x_aload_n (pc := 53) 0 dX2_settleSome_53 rfl ?_
      refine x_iload (pc := 54) 4 dX2_settleSome_54 rfl ?_
      refine x_Vi (μ := m_X2_settleSome) (pc := 56) dX2_settleSome_56 h k_X2_isReady ml_X2_107 ⟨Nat.le_of_ble_eq_true rfl, Nat.le_of_ble_eq_true rfl⟩ ⟨rfl, rfl⟩ ⟨Nat.zero_le _, Nat.zero_le _⟩ rfl (LSch_ob hs) rfl (Nat.le_of_ble_eq_true rfl) _ rfl (fun z14 I15 h => ?_)
      obtain ⟨hr16, h⟩ := h
      obtain ⟨hA17, hB18⟩ := h
      refine x_if_eq (pc := 59) 86 dX2_settleSome_59 (by decide) hr16 (fun hc => ?_) (fun hc => ?_)
      · have h := hA17 hc
        refine x_iinc (pc := 86) (al' := [(0, vR q), (1, vI x1), (2, vI x2), (3, vI (x3 + 1)), (4, vI z7)]) 3 dX2_settleSome_86 rfl rfl rfl (Nat.le_of_ble_eq_true rfl) ?_
        refine x_goto (pc := 89) 20 dX2_settleSome_89 (by decide) ?_
        exact x_sub [0, 1, 2, 3] rfl h
      · have h := hB18 hc
        refine x_aload_n (pc := 62) 0 dX2_settleSome_62 rfl ?_
        refine x_getP (pc := 63) dX2_settleSome_63 FC2 1 (by decide) rfl fl_X2_9 (LSch_ob hs) (LSch_p1 hs) ?_
        refine x_iload (pc := 66) 4 dX2_settleSome_66 rfl ?_
        refine x_aload_n (pc := 68) 0 dX2_settleSome_68 rfl ?_
        refine x_iload (pc := 69) 4 dX2_settleSome_69 rfl ?_
        refine x_Vi (μ := m_X2_settleSome) (pc := 71) dX2_settleSome_71 h k_X2_earliestStart ml_X2_110 ⟨Nat.le_of_ble_eq_true rfl, Nat.le_of_ble_eq_true rfl⟩ ⟨rfl, rfl⟩ ⟨Nat.zero_le _, Nat.zero_le _⟩ rfl (LSch_ob hs) rfl (Nat.le_of_ble_eq_true rfl) _ rfl (fun z19 I20 h => ?_)
        refine x_iast (pc := 74) dX2_settleSome_74 (LSch_a1 hs) hv9 hv10 (by decide) ?_
        refine x_nmI (fun I21 eI21 => ?_)
        have h := h I21 eI21
        refine x_aload_n (pc := 75) 0 dX2_settleSome_75 rfl ?_
        refine x_getP (pc := 76) dX2_settleSome_76 FC2 4 (by decide) rfl fl_X2_21 (LSch_ob hs) (LSch_p4 hs) ?_
        refine x_iload (pc := 79) 4 dX2_settleSome_79 rfl ?_
        refine x_iconst (pc := 81) dX2_settleSome_81 ?_
        refine x_zast (pc := 82) dX2_settleSome_82 (LSch_a4 hs) hv9 hv10 (by decide) (by decide) ?_
        refine x_nmI (fun I22 eI22 => ?_)
        have h := h I22 eI22
        refine x_iinc (pc := 83) (al' := [(0, vR q), (1, vI (x1 + 1)), (2, vI x2), (3, vI x3), (4, vI z7)]) 1 dX2_settleSome_83 rfl rfl rfl (Nat.le_of_ble_eq_true rfl) ?_
        refine x_iinc (pc := 86) (al' := [(0, vR q), (1, vI (x1 + 1)), (2, vI x2), (3, vI (x3 + 1)), (4, vI z7)]) 3 dX2_settleSome_86 rfl rfl rfl (Nat.le_of_ble_eq_true rfl) ?_
        refine x_goto (pc := 89) 20 dX2_settleSome_89 (by decide) ?_
        exact x_sub [0, 1, 2, 3] rfl h
