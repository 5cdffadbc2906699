set_option maxRecDepth 100000 in
set_option maxHeartbeats 4000000 in
theorem t_X2_leaveOf_0 {Γ : GG} {P : MP} {I : MM} {R : Int → MM → Prop} {x1 x2 : Int} {q σ κ n : Nat} (hs : LSch Γ P q σ κ n)
    (h : (Cl Γ m_X5_idOf [vI x1, vI x2] P I (ri P (fun (z1 : Int) (I2 : MM) => (0 ≤ z1) ∧ (z1 < 36) ∧ (0 ≤ (I2 (σ + 8) (z1).toNat)) ∧ ((I2 (σ + 8) (z1).toNat) < 6) ∧ (inR (I2 (σ + 1) ((I2 (σ + 8) (z1).toNat)).toNat)) ∧ (((I2 (σ + 1) ((I2 (σ + 8) (z1).toNat)).toNat) ≠ 0 → (Cl Γ m_X2_completedAt [vR q, vI z1] P I2 (ri P (fun (z10 : Int) (I11 : MM) => R z10 I11)))) ∧ ((I2 (σ + 1) ((I2 (σ + 8) (z1).toNat)).toNat) = 0 → (Cl Γ m_X4_isLast [vR σ, vI z1] P I2 (ri P (fun (z12 : Int) (I13 : MM) => (inR z12) ∧ ((z12 = 0 → (0 ≤ (z1 + 1)) ∧ ((z1 + 1) < 36) ∧ R (I13 (q + 1) ((z1 + 1)).toNat) I13) ∧ (¬ z12 = 0 → (Cl Γ m_X2_completedAt [vR q, vI z1] P I13 (ri P (fun (z19 : Int) (I20 : MM) => R z19 I20)))))))))))))) :
    XM Γ m_X2_leaveOf 0 0 0 [(0, vR q), (1, vI x1), (2, vI x2)] [] P I (ri P R) := by
  refine x_iload_n (pc := 0) 1 dX2_leaveOf_0 rfl ?_
  refine x_iload_n (pc := 1) 2 dX2_leaveOf_1 rfl ?_
  refine x_Ni (μ := m_X2_leaveOf) (pc := 2) "BlockingShop" dX2_leaveOf_2 h k_X5_idOf (by decide +kernel) ⟨Nat.le_of_ble_eq_true rfl, Nat.le_of_ble_eq_true rfl⟩ ⟨rfl, rfl⟩ ⟨Nat.zero_le _, Nat.zero_le _⟩ rfl (Nat.le_of_ble_eq_true rfl) _ rfl (fun z1 I2 h => ?_)
  refine x_istore_n (pc := 5) (al' := [(0, vR q), (1, vI x1), (2, vI x2), (3, vI z1)]) dX2_leaveOf_5 rfl rfl (Nat.le_of_ble_eq_true rfl) ?_
  refine x_aload_n (pc := 6) 0 dX2_leaveOf_6 rfl ?_
  refine x_getP (pc := 7) dX2_leaveOf_7 FC2 0 (by decide) rfl fl_X2_44 (LSch_ob hs) (LSch_p0 hs) ?_
  refine x_getP (pc := 10) dX2_leaveOf_10 FC1 0 (by decide) rfl fl_X2_48 (LPlan_ob (LSch_p hs)) (LPlan_p0 (LSch_p hs)) ?_
  refine x_getP (pc := 13) dX2_leaveOf_13 FC4 3 (by decide) rfl fl_X2_84 (LShop_ob (LPlan_s (LSch_p hs))) (LShop_p3 (LPlan_s (LSch_p hs))) ?_
  refine x_aload_n (pc := 16) 0 dX2_leaveOf_16 rfl ?_
  refine x_getP (pc := 17) dX2_leaveOf_17 FC2 0 (by decide) rfl fl_X2_44 (LSch_ob hs) (LSch_p0 hs) ?_
  refine x_getP (pc := 20) dX2_leaveOf_20 FC1 0 (by decide) rfl fl_X2_48 (LPlan_ob (LSch_p hs)) (LPlan_p0 (LSch_p hs)) ?_
  refine x_getP (pc := 23) dX2_leaveOf_23 FC4 10 (by decide) rfl fl_X2_126 (LShop_ob (LPlan_s (LSch_p hs))) (LShop_p10 (LPlan_s (LSch_p hs))) ?_
  refine x_iload_n (pc := 26) 3 dX2_leaveOf_26 rfl ?_
  obtain ⟨hv3, h⟩ := h
  obtain ⟨hv4, h⟩ := h
  refine x_iald (pc := 27) dX2_leaveOf_27 (LShop_a10 (LPlan_s (LSch_p hs))) hv3 hv4 (by decide) ?_
  obtain ⟨hv5, h⟩ := h
  obtain ⟨hv6, h⟩ := h
  refine x_zald (pc := 28) dX2_leaveOf_28 (LShop_a3 (LPlan_s (LSch_p hs))) hv5 hv6 (by decide) ?_
  obtain ⟨hr7, h⟩ := h
  obtain ⟨hA8, hB9⟩ := h
  refine x_if_ne (pc := 29) 46 dX2_leaveOf_29 (by decide) hr7 (fun hc => ?_) (fun hc => ?_)
  · have h := hA8 hc
    refine x_aload_n (pc := 46) 0 dX2_leaveOf_46 rfl ?_
    refine x_iload_n (pc := 47) 3 dX2_leaveOf_47 rfl ?_
    refine x_Vi (μ := m_X2_leaveOf) (pc := 48) dX2_leaveOf_48 h k_X2_completedAt ml_X2_129 ⟨Nat.le_of_ble_eq_true rfl, Nat.le_of_ble_eq_true rfl⟩ ⟨rfl, rfl⟩ ⟨Nat.zero_le _, Nat.zero_le _⟩ rfl (LSch_ob hs) rfl (Nat.le_of_ble_eq_true rfl) _ rfl (fun z10 I11 h => ?_)
    exact x_iret (pc := 51) dX2_leaveOf_51 rfl (Nat.le_refl _) (Nat.le_refl _) ⟨_, rfl, rfl, h⟩
  · have h := hB9 hc
    refine x_aload_n (pc := 32) 0 dX2_leaveOf_32 rfl ?_
    refine x_getP (pc := 33) dX2_leaveOf_33 FC2 0 (by decide) rfl fl_X2_44 (LSch_ob hs) (LSch_p0 hs) ?_
    refine x_getP (pc := 36) dX2_leaveOf_36 FC1 0 (by decide) rfl fl_X2_48 (LPlan_ob (LSch_p hs)) (LPlan_p0 (LSch_p hs)) ?_
    refine x_iload_n (pc := 39) 3 dX2_leaveOf_39 rfl ?_
    refine x_Vi (μ := m_X2_leaveOf) (pc := 40) dX2_leaveOf_40 h k_X4_isLast ml_X2_87 ⟨Nat.le_of_ble_eq_true rfl, Nat.le_of_ble_eq_true rfl⟩ ⟨rfl, rfl⟩ ⟨Nat.zero_le _, Nat.zero_le _⟩ rfl (LShop_ob (LPlan_s (LSch_p hs))) rfl (Nat.le_of_ble_eq_true rfl) _ rfl (fun z12 I13 h => ?_)
    obtain ⟨hr14, h⟩ := h
    obtain ⟨hA15, hB16⟩ := h
    refine x_if_eq (pc := 43) 52 dX2_leaveOf_43 (by decide) hr14 (fun hc => ?_) (fun hc => ?_)
    · have h := hA15 hc
      refine x_aload_n (pc := 52) 0 dX2_leaveOf_52 rfl ?_
      refine x_getP (pc := 53) dX2_leaveOf_53 FC2 1 (by decide) rfl fl_X2_9 (LSch_ob hs) (LSch_p1 hs) ?_
      refine x_iload_n (pc := 56) 3 dX2_leaveOf_56 rfl ?_
      refine x_iconst (pc := 57) dX2_leaveOf_57 ?_
      refine x_iadd (pc := 58) dX2_leaveOf_58 ?_
      obtain ⟨hv17, h⟩ := h
      obtain ⟨hv18, h⟩ := h
      refine x_iald (pc := 59) dX2_leaveOf_59 (LSch_a1 hs) hv17 hv18 (by decide) ?_
      exact x_iret (pc := 60) dX2_leaveOf_60 rfl (Nat.le_refl _) (Nat.le_refl _) ⟨_, rfl, rfl, h⟩
    · have h := hB16 hc
      refine x_aload_n (pc := 46) 0 dX2_leaveOf_46 rfl ?_
      refine x_iload_n (pc := 47) 3 dX2_leaveOf_47 rfl ?_
      refine x_Vi (μ := m_X2_leaveOf) (pc := 48) dX2_leaveOf_48 h k_X2_completedAt ml_X2_129 ⟨Nat.le_of_ble_eq_true rfl, Nat.le_of_ble_eq_true rfl⟩ ⟨rfl, rfl⟩ ⟨Nat.zero_le _, Nat.zero_le _⟩ rfl (LSch_ob hs) rfl (Nat.le_of_ble_eq_true rfl) _ rfl (fun z19 I20 h => ?_)
      exact x_iret (pc := 51) dX2_leaveOf_51 rfl (Nat.le_refl _) (Nat.le_refl _) ⟨_, rfl, rfl, h⟩
set_option maxRecDepth 100000 in
set_option maxHeartbeats 4000000 in
theorem t_X2_lastOf_0 {Γ : GG} {P : MP} {I : MM} {R : Int → MM → Prop} {x1 : Int} {q σ κ n : Nat} (hs : LSch Γ P q σ κ n)
    (h : (0 ≤ x1) ∧ (x1 < 6) ∧ R (((x1 * 6) + (I (σ + 7) (x1).toNat)) - 1) I) :
    XM Γ m_X2_lastOf 0 0 0 [(0, vR q), (1, vI x1)] [] P I (ri P R) := by
  refine x_iload_n (pc := 0) 1 dX2_lastOf_0 rfl ?_
  refine x_bipush (pc := 1) dX2_lastOf_1 rfl ?_
  refine x_imul (pc := 3) dX2_lastOf_3 ?_
  refine x_aload_n (pc := 4) 0 dX2_lastOf_4 rfl ?_
  refine x_getP (pc := 5) dX2_lastOf_5 FC2 0 (by decide) rfl fl_X2_44 (LSch_ob hs) (LSch_p0 hs) ?_
  refine x_getP (pc := 8) dX2_lastOf_8 FC1 0 (by decide) rfl fl_X2_48 (LPlan_ob (LSch_p hs)) (LPlan_p0 (LSch_p hs)) ?_
  refine x_getP (pc := 11) dX2_lastOf_11 FC4 9 (by decide) rfl fl_X2_97 (LShop_ob (LPlan_s (LSch_p hs))) (LShop_p9 (LPlan_s (LSch_p hs))) ?_
  refine x_iload_n (pc := 14) 1 dX2_lastOf_14 rfl ?_
  obtain ⟨hv1, h⟩ := h
  obtain ⟨hv2, h⟩ := h
  refine x_iald (pc := 15) dX2_lastOf_15 (LShop_a9 (LPlan_s (LSch_p hs))) hv1 hv2 (by decide) ?_
  refine x_iadd (pc := 16) dX2_lastOf_16 ?_
  refine x_iconst (pc := 17) dX2_lastOf_17 ?_
  refine x_isub (pc := 18) dX2_lastOf_18 ?_
  exact x_iret (pc := 19) dX2_lastOf_19 rfl (Nat.le_refl _) (Nat.le_refl _) ⟨_, rfl, rfl, h⟩
set_option maxRecDepth 100000 in
set_option maxHeartbeats 4000000 in
theorem t_X2_completionOf_0 {Γ : GG} {P : MP} {I : MM} {R : Int → MM → Prop} {x1 : Int} {q σ κ n : Nat} (hs : LSch Γ P q σ κ n)
    (h : (Cl Γ m_X2_lastOf [vR q, vI x1] P I (ri P (fun (z1 : Int) (I2 : MM) => (Cl Γ m_X2_completedAt [vR q, vI z1] P I2 (ri P (fun (z3 : Int) (I4 : MM) => R z3 I4))))))) :
    XM Γ m_X2_completionOf 0 0 0 [(0, vR q), (1, vI x1)] [] P I (ri P R) := by
  refine x_aload_n (pc := 0) 0 dX2_completionOf_0 rfl ?_
  refine x_aload_n (pc := 1) 0 dX2_completionOf_1 rfl ?_
  refine x_iload_n (pc := 2) 1 dX2_completionOf_2 rfl ?_
  refine x_Vi (μ := m_X2_completionOf) (pc := 3) dX2_completionOf_3 h k_X2_lastOf ml_X2_132 ⟨Nat.le_of_ble_eq_true rfl, Nat.le_of_ble_eq_true rfl⟩ ⟨rfl, rfl⟩ ⟨Nat.zero_le _, Nat.zero_le _⟩ rfl (LSch_ob hs) rfl (Nat.le_of_ble_eq_true rfl) _ rfl (fun z1 I2 h => ?_)
  refine x_Vi (μ := m_X2_completionOf) (pc := 6) dX2_completionOf_6 h k_X2_completedAt ml_X2_129 ⟨Nat.le_of_ble_eq_true rfl, Nat.le_of_ble_eq_true rfl⟩ ⟨rfl, rfl⟩ ⟨Nat.zero_le _, Nat.zero_le _⟩ rfl (LSch_ob hs) rfl (Nat.le_of_ble_eq_true rfl) _ rfl (fun z3 I4 h => ?_)
  exact x_iret (pc := 9) dX2_completionOf_9 rfl (Nat.le_refl _) (Nat.le_refl _) ⟨_, rfl, rfl, h⟩
set_option maxRecDepth 100000 in
set_option maxHeartbeats 4000000 in
theorem t_X2_greatestCompletion_0 {Γ : GG} {P : MP} {I : MM} {R : Int → MM → Prop} {q σ κ n : Nat} (hs : LSch Γ P q σ κ n)
    (h : XM Γ m_X2_greatestCompletion 0 0 4 [(0, vR q), (1, vI 0), (2, vI 0)] [] P I (ri P R)) :
    XM Γ m_X2_greatestCompletion 0 0 0 [(0, vR q)] [] P I (ri P R) := by
  refine x_iconst (pc := 0) dX2_greatestCompletion_0 ?_
  refine x_istore_n (pc := 1) (al' := [(0, vR q), (1, vI 0)]) dX2_greatestCompletion_1 rfl rfl (Nat.le_of_ble_eq_true rfl) ?_
  refine x_iconst (pc := 2) dX2_greatestCompletion_2 ?_
  refine x_istore_n (pc := 3) (al' := [(0, vR q), (1, vI 0), (2, vI 0)]) dX2_greatestCompletion_3 rfl rfl (Nat.le_of_ble_eq_true rfl) ?_
  exact x_sub [0, 1, 2] rfl h
set_option maxRecDepth 100000 in
set_option maxHeartbeats 4000000 in
theorem t_X2_greatestCompletion_4 {Γ : GG} {P : MP} {I : MM} {R : Int → MM → Prop} {x1 x2 : Int} {q σ κ n : Nat} (hs : LSch Γ P q σ κ n)
    (h : (inR x2) ∧ (inR (I σ 1)) ∧ (((I σ 1) ≤ x2 → R x1 I) ∧ (¬ (I σ 1) ≤ x2 → (Cl Γ m_X2_completionOf [vR q, vI x2] P I (ri P (fun (z5 : Int) (I6 : MM) => (inR x1) ∧ (inR z5) ∧ (∀ u9 : Int, u9 = (max x1 z5) → XM Γ m_X2_greatestCompletion 0 0 4 [(0, vR q), (1, vI u9), (2, vI (x2 + 1))] [] P I6 (ri P R)))))))) :
    XM Γ m_X2_greatestCompletion 0 0 4 [(0, vR q), (1, vI x1), (2, vI x2)] [] P I (ri P R) := by
  refine x_iload_n (pc := 4) 2 dX2_greatestCompletion_4 rfl ?_
  refine x_aload_n (pc := 5) 0 dX2_greatestCompletion_5 rfl ?_
  refine x_getP (pc := 6) dX2_greatestCompletion_6 FC2 0 (by decide) rfl fl_X2_44 (LSch_ob hs) (LSch_p0 hs) ?_
  refine x_getP (pc := 9) dX2_greatestCompletion_9 FC1 0 (by decide) rfl fl_X2_48 (LPlan_ob (LSch_p hs)) (LPlan_p0 (LSch_p hs)) ?_
  refine x_getI (pc := 12) dX2_greatestCompletion_12 FC4 1 (by decide) rfl fl_X2_94 (LShop_ob (LPlan_s (LSch_p hs))) ?_
  obtain ⟨hr1, h⟩ := h
  obtain ⟨hr2, h⟩ := h
  obtain ⟨hA3, hB4⟩ := h
  refine x_icmp_ge (pc := 15) 34 dX2_greatestCompletion_15 (by decide) hr1 hr2 (fun hc => ?_) (fun hc => ?_)
  · have h := hA3 hc
    refine x_iload_n (pc := 34) 1 dX2_greatestCompletion_34 rfl ?_
    exact x_iret (pc := 35) dX2_greatestCompletion_35 rfl (Nat.le_refl _) (Nat.le_refl _) ⟨_, rfl, rfl, h⟩
  · have h := hB4 hc
    refine x_iload_n (pc := 18) 1 dX2_greatestCompletion_18 rfl ?_
    refine x_aload_n (pc := 19) 0 dX2_greatestCompletion_19 rfl ?_
    refine x_iload_n (pc := 20) 2 dX2_greatestCompletion_20 rfl ?_
    refine x_Vi (μ := m_X2_greatestCompletion) (pc := 21) dX2_greatestCompletion_21 h k_X2_completionOf ml_X2_135 ⟨Nat.le_of_ble_eq_true rfl, Nat.le_of_ble_eq_true rfl⟩ ⟨rfl, rfl⟩ ⟨Nat.zero_le _, Nat.zero_le _⟩ rfl (LSch_ob hs) rfl (Nat.le_of_ble_eq_true rfl) _ rfl (fun z5 I6 h => ?_)
    obtain ⟨hr7, h⟩ := h
    obtain ⟨hr8, h⟩ := h
    refine x_mmax (pc := 24) dX2_greatestCompletion_24 ml_X2_114 mth_max.1 mth_max.2.1 mth_max.2.2 ⟨Nat.le_of_ble_eq_true rfl, Nat.le_of_ble_eq_true rfl⟩ ⟨Nat.zero_le _, Nat.zero_le _⟩ hr7 hr8 ?_
    refine x_nmT (fun u9 eu9 => ?_)
    have h := h u9 eu9
    refine x_istore_n (pc := 27) (al' := [(0, vR q), (1, vI u9), (2, vI x2)]) dX2_greatestCompletion_27 rfl rfl (Nat.le_of_ble_eq_true rfl) ?_
    refine x_iinc (pc := 28) (al' := [(0, vR q), (1, vI u9), (2, vI (x2 + 1))]) 2 dX2_greatestCompletion_28 rfl rfl rfl (Nat.le_of_ble_eq_true rfl) ?_
    refine x_goto (pc := 31) 4 dX2_greatestCompletion_31 (by decide) ?_
    exact x_sub [0, 1, 2] rfl h
set_option maxRecDepth 100000 in
set_option maxHeartbeats 4000000 in
theorem t_X2_costOf_0 {Γ : GG} {P : MP} {I : MM} {R : Int → MM → Prop} {x1 : Int} {q σ κ n : Nat} (hs : LSch Γ P q σ κ n)
    (h : (Cl Γ m_X2_completionOf [vR q, vI x1] P I (ri P (fun (z1 : Int) (I2 : MM) => (Cl Γ m_X0_evaluate [vR (q + 6), vR σ, vI x1, vI z1] P I2 (ri P (fun (z3 : Int) (I4 : MM) => R z3 I4))))))) :
    XM Γ m_X2_costOf 0 0 0 [(0, vR q), (1, vI x1)] [] P I (ri P R) := by
  refine x_aload_n (pc := 0) 0 dX2_costOf_0 rfl ?_
  refine x_getP (pc := 1) dX2_costOf_1 FC2 7 (by decide) rfl fl_X2_35 (LSch_ob hs) (LSch_p7 hs) ?_
  refine x_aload_n (pc := 4) 0 dX2_costOf_4 rfl ?_
  refine x_getP (pc := 5) dX2_costOf_5 FC2 0 (by decide) rfl fl_X2_44 (LSch_ob hs) (LSch_p0 hs) ?_
  refine x_getP (pc := 8) dX2_costOf_8 FC1 0 (by decide) rfl fl_X2_48 (LPlan_ob (LSch_p hs)) (LPlan_p0 (LSch_p hs)) ?_
  refine x_iload_n (pc := 11) 1 dX2_costOf_11 rfl ?_
  refine x_aload_n (pc := 12) 0 dX2_costOf_12 rfl ?_
  refine x_iload_n (pc := 13) 1 dX2_costOf_13 rfl ?_
  refine x_Vi (μ := m_X2_costOf) (pc := 14) dX2_costOf_14 h k_X2_completionOf ml_X2_135 ⟨Nat.le_of_ble_eq_true rfl, Nat.le_of_ble_eq_true rfl⟩ ⟨rfl, rfl⟩ ⟨Nat.zero_le _, Nat.zero_le _⟩ rfl (LSch_ob hs) rfl (Nat.le_of_ble_eq_true rfl) _ rfl (fun z1 I2 h => ?_)
  refine x_Vi (μ := m_X2_costOf) (pc := 17) dX2_costOf_17 h k_X0_evaluate ml_X2_138 ⟨Nat.le_of_ble_eq_true rfl, Nat.le_of_ble_eq_true rfl⟩ ⟨rfl, rfl⟩ ⟨Nat.zero_le _, Nat.zero_le _⟩ rfl (LCost_ob (LSch_c hs)) rfl (Nat.le_of_ble_eq_true rfl) _ rfl (fun z3 I4 h => ?_)
  exact x_iret (pc := 20) dX2_costOf_20 rfl (Nat.le_refl _) (Nat.le_refl _) ⟨_, rfl, rfl, h⟩
set_option maxRecDepth 100000 in
set_option maxHeartbeats 4000000 in
theorem t_X2_costOfAll_0 {Γ : GG} {P : MP} {I : MM} {R : Int → MM → Prop} {q σ κ n : Nat} (hs : LSch Γ P q σ κ n)
    (h : XM Γ m_X2_costOfAll 0 0 4 [(0, vR q), (1, vI 0), (2, vI 0)] [] P I (ri P R)) :
    XM Γ m_X2_costOfAll 0 0 0 [(0, vR q)] [] P I (ri P R) := by
  refine x_iconst (pc := 0) dX2_costOfAll_0 ?_
  refine x_istore_n (pc := 1) (al' := [(0, vR q), (1, vI 0)]) dX2_costOfAll_1 rfl rfl (Nat.le_of_ble_eq_true rfl) ?_
  refine x_iconst (pc := 2) dX2_costOfAll_2 ?_
  refine x_istore_n (pc := 3) (al' := [(0, vR q), (1, vI 0), (2, vI 0)]) dX2_costOfAll_3 rfl rfl (Nat.le_of_ble_eq_true rfl) ?_
  exact x_sub [0, 1, 2] rfl h
set_option maxRecDepth 100000 in
set_option maxHeartbeats 4000000 in
theorem t_X2_costOfAll_4 {Γ : GG} {P : MP} {I : MM} {R : Int → MM → Prop} {x1 x2 : Int} {q σ κ n : Nat} (hs : LSch Γ P q σ κ n)
    (h : (inR x2) ∧ (inR (I σ 1)) ∧ (((I σ 1) ≤ x2 → R x1 I) ∧ (¬ (I σ 1) ≤ x2 → (Cl Γ m_X2_costOf [vR q, vI x2] P I (ri P (fun (z5 : Int) (I6 : MM) => (∀ u7 : Int, u7 = (x1 + z5) → XM Γ m_X2_costOfAll 0 0 4 [(0, vR q), (1, vI u7), (2, vI (x2 + 1))] [] P I6 (ri P R)))))))) :
    XM Γ m_X2_costOfAll 0 0 4 [(0, vR q), (1, vI x1), (2, vI x2)] [] P I (ri P R) := by
  refine x_iload_n (pc := 4) 2 dX2_costOfAll_4 rfl ?_
  refine x_aload_n (pc := 5) 0 dX2_costOfAll_5 rfl ?_
  refine x_getP (pc := 6) dX2_costOfAll_6 FC2 0 (by decide) rfl fl_X2_44 (LSch_ob hs) (LSch_p0 hs) ?_
  refine x_getP (pc := 9) dX2_costOfAll_9 FC1 0 (by decide) rfl fl_X2_48 (LPlan_ob (LSch_p hs)) (LPlan_p0 (LSch_p hs)) ?_
  refine x_getI (pc := 12) dX2_costOfAll_12 FC4 1 (by decide) rfl fl_X2_94 (LShop_ob (LPlan_s (LSch_p hs))) ?_
  obtain ⟨hr1, h⟩ := h
  obtain ⟨hr2, h⟩ := h
  obtain ⟨hA3, hB4⟩ := h
  refine x_icmp_ge (pc := 15) 32 dX2_costOfAll_15 (by decide) hr1 hr2 (fun hc => ?_) (fun hc => ?_)
  · have h := hA3 hc
    refine x_iload_n (pc := 32) 1 dX2_costOfAll_32 rfl ?_
    exact x_iret (pc := 33) dX2_costOfAll_33 rfl (Nat.le_refl _) (Nat.le_refl _) ⟨_, rfl, rfl, h⟩
  · have h := hB4 hc
    refine x_iload_n (pc := 18) 1 dX2_costOfAll_18 rfl ?_
    refine x_aload_n (pc := 19) 0 dX2_costOfAll_19 rfl ?_
    refine x_iload_n (pc := 20) 2 dX2_costOfAll_20 rfl ?_
    refine x_Vi (μ := m_X2_costOfAll) (pc := 21) dX2_costOfAll_21 h k_X2_costOf ml_X2_142 ⟨Nat.le_of_ble_eq_true rfl, Nat.le_of_ble_eq_true rfl⟩ ⟨rfl, rfl⟩ ⟨Nat.zero_le _, Nat.zero_le _⟩ rfl (LSch_ob hs) rfl (Nat.le_of_ble_eq_true rfl) _ rfl (fun z5 I6 h => ?_)
    refine x_iadd (pc := 24) dX2_costOfAll_24 ?_
    refine x_nmT (fun u7 eu7 => ?_)
    have h := h u7 eu7
    refine x_istore_n (pc := 25) (al' := [(0, vR q), (1, vI u7), (2, vI x2)]) dX2_costOfAll_25 rfl rfl (Nat.le_of_ble_eq_true rfl) ?_
    refine x_iinc (pc := 26) (al' := [(0, vR q), (1, vI u7), (2, vI (x2 + 1))]) 2 dX2_costOfAll_26 rfl rfl rfl (Nat.le_of_ble_eq_true rfl) ?_
    refine x_goto (pc := 29) 4 dX2_costOfAll_29 (by decide) ?_
    exact x_sub [0, 1, 2] rfl h
set_option maxRecDepth 100000 in
set_option maxHeartbeats 4000000 in
theorem t_X2_isBetterThan_0 {Γ : GG} {P : MP} {I : MM} {R : Int → MM → Prop} {x1 x2 : Int} {q σ κ n : Nat} (hs : LSch Γ P q σ κ n)
    (h : (Cl Γ m_X2_greatestCompletion [vR q] P I (ri P (fun (z1 : Int) (I2 : MM) => (inR z1) ∧ (inR x1) ∧ ((z1 < x1 → R 1 I2) ∧ (¬ z1 < x1 → ((z1 ≠ x1 → R 0 I2) ∧ (z1 = x1 → (Cl Γ m_X2_costOfAll [vR q] P I2 (ri P (fun (z9 : Int) (I10 : MM) => (inR z9) ∧ (inR x2) ∧ ((x2 ≤ z9 → R 0 I10) ∧ (¬ x2 ≤ z9 → R 1 I10))))))))))))) :
    XM Γ m_X2_isBetterThan 0 0 0 [(0, vR q), (1, vI x1), (2, vI x2)] [] P I (ri P R) := by
  refine x_aload_n (pc := 0) 0 dX2_isBetterThan_0 rfl ?_
  refine x_Vi (μ := m_X2_isBetterThan) (pc := 1) dX2_isBetterThan_1 h k_X2_greatestCompletion ml_X2_145 ⟨Nat.le_of_ble_eq_true rfl, Nat.le_of_ble_eq_true rfl⟩ ⟨rfl, rfl⟩ ⟨Nat.zero_le _, Nat.zero_le _⟩ rfl (LSch_ob hs) rfl (Nat.le_of_ble_eq_true rfl) _ rfl (fun z1 I2 h => ?_)
  refine x_istore_n (pc := 4) (al' := [(0, vR q), (1, vI x1), (2, vI x2), (3, vI z1)]) dX2_isBetterThan_4 rfl rfl (Nat.le_of_ble_eq_true rfl) ?_
  refine x_iload_n (pc := 5) 3 dX2_isBetterThan_5 rfl ?_
  refine x_iload_n (pc := 6) 1 dX2_isBetterThan_6 rfl ?_
  obtain ⟨hr3, h⟩ := h
  obtain ⟨hr4, h⟩ := h
  obtain ⟨hA5, hB6⟩ := h
  refine x_icmp_lt (pc := 7) 23 dX2_isBetterThan_7 (by decide) hr3 hr4 (fun hc => ?_) (fun hc => ?_)
  · have h := hA5 hc
    refine x_iconst (pc := 23) dX2_isBetterThan_23 ?_
    refine x_goto (pc := 24) 28 dX2_isBetterThan_24 (by decide) ?_
    exact x_zret (pc := 28) dX2_isBetterThan_28 rfl (by decide) (Nat.le_refl _) (Nat.le_refl _) ⟨_, rfl, rfl, h⟩
  · have h := hB6 hc
    refine x_iload_n (pc := 10) 3 dX2_isBetterThan_10 rfl ?_
    refine x_iload_n (pc := 11) 1 dX2_isBetterThan_11 rfl ?_
    obtain ⟨hA7, hB8⟩ := h
    refine x_icmp_ne (pc := 12) 27 dX2_isBetterThan_12 (by decide) hr3 hr4 (fun hc => ?_) (fun hc => ?_)
    · have h := hA7 hc
      refine x_iconst (pc := 27) dX2_isBetterThan_27 ?_
      exact x_zret (pc := 28) dX2_isBetterThan_28 rfl (by decide) (Nat.le_refl _) (Nat.le_refl _) ⟨_, rfl, rfl, h⟩
    · have h := hB8 hc
      refine x_aload_n (pc := 15) 0 dX2_isBetterThan_15 rfl ?_
      refine x_Vi (μ := m_X2_isBetterThan) (pc := 16) dX2_isBetterThan_16 h k_X2_costOfAll ml_X2_148 ⟨Nat.le_of_ble_eq_true rfl, Nat.le_of_ble_eq_true rfl⟩ ⟨rfl, rfl⟩ ⟨Nat.zero_le _, Nat.zero_le _⟩ rfl (LSch_ob hs) rfl (Nat.le_of_ble_eq_true rfl) _ rfl (fun z9 I10 h => ?_)
      refine x_iload_n (pc := 19) 2 dX2_isBetterThan_19 rfl ?_
      obtain ⟨hr11, h⟩ := h
      obtain ⟨hr12, h⟩ := h
      obtain ⟨hA13, hB14⟩ := h
      refine x_icmp_ge (pc := 20) 27 dX2_isBetterThan_20 (by decide) hr11 hr12 (fun hc => ?_) (fun hc => ?_)
      · have h := hA13 hc
        refine x_iconst (pc := 27) dX2_isBetterThan_27 ?_
        exact x_zret (pc := 28) dX2_isBetterThan_28 rfl (by decide) (Nat.le_refl _) (Nat.le_refl _) ⟨_, rfl, rfl, h⟩
      · have h := hB14 hc
        refine x_iconst (pc := 23) dX2_isBetterThan_23 ?_
        refine x_goto (pc := 24) 28 dX2_isBetterThan_24 (by decide) ?_
        exact x_zret (pc := 28) dX2_isBetterThan_28 rfl (by decide) (Nat.le_refl _) (Nat.le_refl _) ⟨_, rfl, rfl, h⟩
set_option maxRecDepth 100000 in
set_option maxHeartbeats 4000000 in
theorem t_X2_traceCriticalPath_0 {Γ : GG} {P : MP} {I : MM} {R : MM → Prop} {q σ κ n : Nat} (hs : LSch Γ P q σ κ n)
    (h : (∀ I1 : MM, I1 = up2 I q 6 0 → (Cl Γ m_X2_criticalEnd [vR q] P I1 (ri P (fun (z2 : Int) (I3 : MM) => XM Γ m_X2_traceCriticalPath 0 0 12 [(0, vR q), (1, vI z2), (2, vI 0)] [] P I3 (rv P R)))))) :
    XM Γ m_X2_traceCriticalPath 0 0 0 [(0, vR q)] [] P I (rv P R) := by
  refine x_aload_n (pc := 0) 0 dX2_traceCriticalPath_0 rfl ?_
  refine x_iconst (pc := 1) dX2_traceCriticalPath_1 ?_
  refine x_putI (pc := 2) dX2_traceCriticalPath_2 FC2 6 (by decide) rfl rfl fl_X2_28 (LSch_ob hs) ?_
  refine x_nmI (fun I1 eI1 => ?_)
  have h := h I1 eI1
  refine x_aload_n (pc := 5) 0 dX2_traceCriticalPath_5 rfl ?_
  refine x_Vi (μ := m_X2_traceCriticalPath) (pc := 6) dX2_traceCriticalPath_6 h k_X2_criticalEnd ml_X2_151 ⟨Nat.le_of_ble_eq_true rfl, Nat.le_of_ble_eq_true rfl⟩ ⟨rfl, rfl⟩ ⟨Nat.zero_le _, Nat.zero_le _⟩ rfl (LSch_ob hs) rfl (Nat.le_of_ble_eq_true rfl) _ rfl (fun z2 I3 h => ?_)
  refine x_istore_n (pc := 9) (al' := [(0, vR q), (1, vI z2)]) dX2_traceCriticalPath_9 rfl rfl (Nat.le_of_ble_eq_true rfl) ?_
  refine x_iconst (pc := 10) dX2_traceCriticalPath_10 ?_
  refine x_istore_n (pc := 11) (al' := [(0, vR q), (1, vI z2), (2, vI 0)]) dX2_traceCriticalPath_11 rfl rfl (Nat.le_of_ble_eq_true rfl) ?_
  exact x_sub [0, 1, 2] rfl h
set_option maxRecDepth 100000 in
set_option maxHeartbeats 4000000 in
theorem t_X2_traceCriticalPath_12 {Γ : GG} {P : MP} {I : MM} {R : MM → Prop} {x1 x2 : Int} {q σ κ n : Nat} (hs : LSch Γ P q σ κ n)
    (h : (inR x2) ∧ ((36 ≤ x2 → R I) ∧ (¬ 36 ≤ x2 → (inR x1) ∧ ((x1 < 0 → R I) ∧ (¬ x1 < 0 → (Cl Γ m_X2_isOnPath [vR q, vI x1] P I (ri P (fun (z7 : Int) (I8 : MM) => (inR z7) ∧ ((z7 ≠ 0 → R I8) ∧ (z7 = 0 → (0 ≤ x2) ∧ (x2 < 36) ∧ (∀ I14 : MM, I14 = up2 I8 (q + 5) (x2).toNat x1 → (∀ I15 : MM, I15 = up2 I14 q 6 (x2 + 1) → (Cl Γ m_X2_criticalSource [vR q, vI x1] P I15 (ri P (fun (z16 : Int) (I17 : MM) => XM Γ m_X2_traceCriticalPath 0 0 12 [(0, vR q), (1, vI z16), (2, vI (x2 + 1))] [] P I17 (rv P R)))))))))))))))) :
    XM Γ m_X2_traceCriticalPath 0 0 12 [(0, vR q), (1, vI x1), (2, vI x2)] [] P I (rv P R) := by
  refine x_iload_n (pc := 12) 2 dX2_traceCriticalPath_12 rfl ?_
  refine x_bipush (pc := 13) dX2_traceCriticalPath_13 rfl ?_
  obtain ⟨hr1, h⟩ := h
  obtain ⟨hA2, hB3⟩ := h
  refine x_icmp_ge (pc := 15) 56 dX2_traceCriticalPath_15 (by decide) hr1 ⟨by decide, by decide⟩ (fun hc => ?_) (fun hc => ?_)
  · have h := hA2 hc
    exact x_vret (pc := 56) dX2_traceCriticalPath_56 rfl (Nat.le_refl _) (Nat.le_refl _) ⟨rfl, rfl, h⟩
  · have h := hB3 hc
    refine x_iload_n (pc := 18) 1 dX2_traceCriticalPath_18 rfl ?_
    obtain ⟨hr4, h⟩ := h
    obtain ⟨hA5, hB6⟩ := h
    refine x_if_lt (pc := 19) 56 dX2_traceCriticalPath_19 (by decide) hr4 (fun hc => ?_) (fun hc => ?_)
    · have h := hA5 hc
      exact x_vret (pc := 56) dX2_traceCriticalPath_56 rfl (Nat.le_refl _) (Nat.le_refl _) ⟨rfl, rfl, h⟩
    · have h := hB6 hc
      refine x_aload_n (pc := 22) 0 dX2_traceCriticalPath_22 rfl ?_
      refine x_iload_n (pc := 23) 1 dX2_traceCriticalPath_23 rfl ?_
      refine x_Vi (μ := m_X2_traceCriticalPath) (pc := 24) dX2_traceCriticalPath_24 h k_X2_isOnPath ml_X2_154 ⟨Nat.le_of_ble_eq_true rfl, Nat.le_of_ble_eq_true rfl⟩ ⟨rfl, rfl⟩ ⟨Nat.zero_le _, Nat.zero_le _⟩ rfl (LSch_ob hs) rfl (Nat.le_of_ble_eq_true rfl) _ rfl (fun z7 I8 h => ?_)
      obtain ⟨hr9, h⟩ := h
      obtain ⟨hA10, hB11⟩ := h
      refine x_if_ne (pc := 27) 56 dX2_traceCriticalPath_27 (by decide) hr9 (fun hc => ?_) (fun hc => ?_)
      · have h := hA10 hc
        exact x_vret (pc := 56) dX2_traceCriticalPath_56 rfl (Nat.le_refl _) (Nat.le_refl _) ⟨rfl, rfl, h⟩
      · have h := hB11 hc
        refine x_aload_n (pc := 30) 0 dX2_traceCriticalPath_30 rfl ?_
        refine x_getP (pc := 31) dX2_traceCriticalPath_31 FC2 5 (by decide) rfl fl_X2_25 (LSch_ob hs) (LSch_p5 hs) ?_
        refine x_iload_n (pc := 34) 2 dX2_traceCriticalPath_34 rfl ?_
        refine x_iload_n (pc := 35) 1 dX2_traceCriticalPath_35 rfl ?_
        obtain ⟨hv12, h⟩ := h
        obtain ⟨hv13, h⟩ := h
        refine x_iast (pc := 36) dX2_traceCriticalPath_36 (LSch_a5 hs) hv12 hv13 (by decide) ?_
        refine x_nmI (fun I14 eI14 => ?_)
        have h := h I14 eI14
        refine x_aload_n (pc := 37) 0 dX2_traceCriticalPath_37 rfl ?_
        refine x_iload_n (pc := 38) 2 dX2_traceCriticalPath_38 rfl ?_
        refine x_iconst (pc := 39) dX2_traceCriticalPath_39 ?_
        refine x_iadd (pc := 40) dX2_traceCriticalPath_40 ?_
        refine x_putI (pc := 41) dX2_traceCriticalPath_41 FC2 6 (by decide) rfl rfl fl_X2_28 (LSch_ob hs) ?_
        refine x_nmI (fun I15 eI15 => ?_)
        have h := h I15 eI15
        refine x_aload_n (pc := 44) 0 dX2_traceCriticalPath_44 rfl ?_
        refine x_iload_n (pc := 45) 1 dX2_traceCriticalPath_45 rfl ?_
        refine x_Vi (μ := m_X2_traceCriticalPath) (pc := 46) dX2_traceCriticalPath_46 h k_X2_criticalSource ml_X2_157 ⟨Nat.le_of_ble_eq_true rfl, Nat.le_of_ble_eq_true rfl⟩ ⟨rfl, rfl⟩ ⟨Nat.zero_le _, Nat.zero_le _⟩ rfl (LSch_ob hs) rfl (Nat.le_of_ble_eq_true rfl) _ rfl (fun z16 I17 h => ?_)
        refine x_istore_n (pc := 49) (al' := [(0, vR q), (1, vI z16), (2, vI x2)]) dX2_traceCriticalPath_49 rfl rfl (Nat.le_of_ble_eq_true rfl) ?_
        refine x_iinc (pc := 50) (al' := [(0, vR q), (1, vI z16), (2, vI (x2 + 1))]) 2 dX2_traceCriticalPath_50 rfl rfl rfl (Nat.le_of_ble_eq_true rfl) ?_
        refine x_goto (pc := 53) 12 dX2_traceCriticalPath_53 (by decide) ?_
        exact x_sub [0, 1, 2] rfl h
set_option maxRecDepth 100000 in
set_option maxHeartbeats 4000000 in
theorem t_X2_criticalEnd_0 {Γ : GG} {P : MP} {I : MM} {R : Int → MM → Prop} {q σ κ n : Nat} (hs : LSch Γ P q σ κ n)
    (h : (Cl Γ m_X2_greatestCompletion [vR q] P I (ri P (fun (z1 : Int) (I2 : MM) => XM Γ m_X2_criticalEnd 0 0 7 [(0, vR q), (1, vI z1), (2, vI 0)] [] P I2 (ri P R))))) :
    XM Γ m_X2_criticalEnd 0 0 0 [(0, vR q)] [] P I (ri P R) := by
  refine x_aload_n (pc := 0) 0 dX2_criticalEnd_0 rfl ?_
  refine x_Vi (μ := m_X2_criticalEnd) (pc := 1) dX2_criticalEnd_1 h k_X2_greatestCompletion ml_X2_145 ⟨Nat.le_of_ble_eq_true rfl, Nat.le_of_ble_eq_true rfl⟩ ⟨rfl, rfl⟩ ⟨Nat.zero_le _, Nat.zero_le _⟩ rfl (LSch_ob hs) rfl (Nat.le_of_ble_eq_true rfl) _ rfl (fun z1 I2 h => ?_)
  refine x_istore_n (pc := 4) (al' := [(0, vR q), (1, vI z1)]) dX2_criticalEnd_4 rfl rfl (Nat.le_of_ble_eq_true rfl) ?_
  refine x_iconst (pc := 5) dX2_criticalEnd_5 ?_
  refine x_istore_n (pc := 6) (al' := [(0, vR q), (1, vI z1), (2, vI 0)]) dX2_criticalEnd_6 rfl rfl (Nat.le_of_ble_eq_true rfl) ?_
  exact x_sub [0, 1, 2] rfl h
set_option maxRecDepth 100000 in
set_option maxHeartbeats 4000000 in
theorem t_X2_criticalEnd_7 {Γ : GG} {P : MP} {I : MM} {R : Int → MM → Prop} {x1 x2 : Int} {q σ κ n : Nat} (hs : LSch Γ P q σ κ n)
    (h : (inR x2) ∧ (inR (I σ 1)) ∧ (((I σ 1) ≤ x2 → R (-1) I) ∧ (¬ (I σ 1) ≤ x2 → (Cl Γ m_X2_completionOf [vR q, vI x2] P I (ri P (fun (z5 : Int) (I6 : MM) => (inR z5) ∧ (inR x1) ∧ ((z5 ≠ x1 → XM Γ m_X2_criticalEnd 0 0 7 [(0, vR q), (1, vI x1), (2, vI (x2 + 1))] [] P I6 (ri P R)) ∧ (z5 = x1 → (Cl Γ m_X2_lastOf [vR q, vI x2] P I6 (ri P (fun (z11 : Int) (I12 : MM) => R z11 I12))))))))))) :
    XM Γ m_X2_criticalEnd 0 0 7 [(0, vR q), (1, vI x1), (2, vI x2)] [] P I (ri P R) := by
  refine x_iload_n (pc := 7) 2 dX2_criticalEnd_7 rfl ?_
  refine x_aload_n (pc := 8) 0 dX2_criticalEnd_8 rfl ?_
  refine x_getP (pc := 9) dX2_criticalEnd_9 FC2 0 (by decide) rfl fl_X2_44 (LSch_ob hs) (LSch_p0 hs) ?_
  refine x_getP (pc := 12) dX2_criticalEnd_12 FC1 0 (by decide) rfl fl_X2_48 (LPlan_ob (LSch_p hs)) (LPlan_p0 (LSch_p hs)) ?_
  refine x_getI (pc := 15) dX2_criticalEnd_15 FC4 1 (by decide) rfl fl_X2_94 (LShop_ob (LPlan_s (LSch_p hs))) ?_
  obtain ⟨hr1, h⟩ := h
  obtain ⟨hr2, h⟩ := h
  obtain ⟨hA3, hB4⟩ := h
  refine x_icmp_ge (pc := 18) 42 dX2_criticalEnd_18 (by decide) hr1 hr2 (fun hc => ?_) (fun hc => ?_)
  · have h := hA3 hc
    refine x_iconst (pc := 42) dX2_criticalEnd_42 ?_
    exact x_iret (pc := 43) dX2_criticalEnd_43 rfl (Nat.le_refl _) (Nat.le_refl _) ⟨_, rfl, rfl, h⟩
  · have h := hB4 hc
    refine x_aload_n (pc := 21) 0 dX2_criticalEnd_21 rfl ?_
    refine x_iload_n (pc := 22) 2 dX2_criticalEnd_22 rfl ?_
    refine x_Vi (μ := m_X2_criticalEnd) (pc := 23) dX2_criticalEnd_23 h k_X2_completionOf ml_X2_135 ⟨Nat.le_of_ble_eq_true rfl, Nat.le_of_ble_eq_true rfl⟩ ⟨rfl, rfl⟩ ⟨Nat.zero_le _, Nat.zero_le _⟩ rfl (LSch_ob hs) rfl (Nat.le_of_ble_eq_true rfl) _ rfl (fun z5 I6 h => ?_)
    refine x_iload_n (pc := 26) 1 dX2_criticalEnd_26 rfl ?_
    obtain ⟨hr7, h⟩ := h
    obtain ⟨hr8, h⟩ := h
    obtain ⟨hA9, hB10⟩ := h
    refine x_icmp_ne (pc := 27) 36 dX2_criticalEnd_27 (by decide) hr7 hr8 (fun hc => ?_) (fun hc => ?_)
    · have h := hA9 hc
      refine x_iinc (pc := 36) (al' := [(0, vR q), (1, vI x1), (2, vI (x2 + 1))]) 2 dX2_criticalEnd_36 rfl rfl rfl (Nat.le_of_ble_eq_true rfl) ?_
      refine x_goto (pc := 39) 7 dX2_criticalEnd_39 (by decide) ?_
      exact x_sub [0, 1, 2] rfl h
    · have h := hB10 hc
      refine x_aload_n (pc := 30) 0 dX2_criticalEnd_30 rfl ?_
      refine x_iload_n (pc := 31) 2 dX2_criticalEnd_31 rfl ?_
      refine x_Vi (μ := m_X2_criticalEnd) (pc := 32) dX2_criticalEnd_32 h k_X2_lastOf ml_X2_132 ⟨Nat.le_of_ble_eq_true rfl, Nat.le_of_ble_eq_true rfl⟩ ⟨rfl, rfl⟩ ⟨Nat.zero_le _, Nat.zero_le _⟩ rfl (LSch_ob hs) rfl (Nat.le_of_ble_eq_true rfl) _ rfl (fun z11 I12 h => ?_)
      exact x_iret (pc := 35) dX2_criticalEnd_35 rfl (Nat.le_refl _) (Nat.le_refl _) ⟨_, rfl, rfl, h⟩
set_option maxRecDepth 100000 in
set_option maxHeartbeats 4000000 in
theorem t_X2_isOnPath_0 {Γ : GG} {P : MP} {I : MM} {R : Int → MM → Prop} {x1 : Int} {q σ κ n : Nat} (hs : LSch Γ P q σ κ n)
    (h : XM Γ m_X2_isOnPath 0 0 2 [(0, vR q), (1, vI x1), (2, vI 0)] [] P I (ri P R)) :
    XM Γ m_X2_isOnPath 0 0 0 [(0, vR q), (1, vI x1)] [] P I (ri P R) := by
  refine x_iconst (pc := 0) dX2_isOnPath_0 ?_
  refine x_istore_n (pc := 1) (al' := [(0, vR q), (1, vI x1), (2, vI 0)]) dX2_isOnPath_1 rfl rfl (Nat.le_of_ble_eq_true rfl) ?_
  exact x_sub [0, 1, 2] rfl h
set_option maxRecDepth 100000 in
set_option maxHeartbeats 4000000 in
theorem t_X2_isOnPath_2 {Γ : GG} {P : MP} {I : MM} {R : Int → MM → Prop} {x1 x2 : Int} {q σ κ n : Nat} (hs : LSch Γ P q σ κ n)
    (h : (inR x2) ∧ (inR (I q 6)) ∧ (((I q 6) ≤ x2 → R 0 I) ∧ (¬ (I q 6) ≤ x2 → (0 ≤ x2) ∧ (x2 < 36) ∧ (inR (I (q + 5) (x2).toNat)) ∧ (inR x1) ∧ (((I (q + 5) (x2).toNat) ≠ x1 → XM Γ m_X2_isOnPath 0 0 2 [(0, vR q), (1, vI x1), (2, vI (x2 + 1))] [] P I (ri P R)) ∧ ((I (q + 5) (x2).toNat) = x1 → R 1 I))))) :
    XM Γ m_X2_isOnPath 0 0 2 [(0, vR q), (1, vI x1), (2, vI x2)] [] P I (ri P R) := by
  refine x_iload_n (pc := 2) 2 dX2_isOnPath_2 rfl ?_
  refine x_aload_n (pc := 3) 0 dX2_isOnPath_3 rfl ?_
  refine x_getI (pc := 4) dX2_isOnPath_4 FC2 6 (by decide) rfl fl_X2_28 (LSch_ob hs) ?_
  obtain ⟨hr1, h⟩ := h
  obtain ⟨hr2, h⟩ := h
  obtain ⟨hA3, hB4⟩ := h
  refine x_icmp_ge (pc := 7) 28 dX2_isOnPath_7 (by decide) hr1 hr2 (fun hc => ?_) (fun hc => ?_)
  · have h := hA3 hc
    refine x_iconst (pc := 28) dX2_isOnPath_28 ?_
    exact x_zret (pc := 29) dX2_isOnPath_29 rfl (by decide) (Nat.le_refl _) (Nat.le_refl _) ⟨_, rfl, rfl, h⟩
  · have h := hB4 hc
    refine x_aload_n (pc := 10) 0 dX2_isOnPath_10 rfl ?_
    refine x_getP (pc := 11) dX2_isOnPath_11 FC2 5 (by decide) rfl fl_X2_25 (LSch_ob hs) (LSch_p5 hs) ?_
    refine x_iload_n (pc := 14) 2 dX2_isOnPath_14 rfl ?_
    obtain ⟨hv5, h⟩ := h
    obtain ⟨hv6, h⟩ := h
    refine x_iald (pc := 15) dX2_isOnPath_15 (LSch_a5 hs) hv5 hv6 (by decide) ?_
    refine x_iload_n (pc := 16) 1 dX2_isOnPath_16 rfl ?_
    obtain ⟨hr7, h⟩ := h
    obtain ⟨hr8, h⟩ := h
    obtain ⟨hA9, hB10⟩ := h
    refine x_icmp_ne (pc := 17) 22 dX2_isOnPath_17 (by decide) hr7 hr8 (fun hc => ?_) (fun hc => ?_)
    · have h := hA9 hc
      refine x_iinc (pc := 22) (al' := [(0, vR q), (1, vI x1), (2, vI (x2 + 1))]) 2 dX2_isOnPath_22 rfl rfl rfl (Nat.le_of_ble_eq_true rfl) ?_
      refine x_goto (pc := 25) 2 dX2_isOnPath_25 (by decide) ?_
      exact x_sub [0, 1, 2] rfl h
    · have h := hB10 hc
      refine x_iconst (pc := 20) dX2_isOnPath_20 ?_
      exact x_zret (pc := 21) dX2_isOnPath_21 rfl (by decide) (Nat.le_refl _) (Nat.le_refl _) ⟨_, rfl, rfl, h⟩
set_option maxRecDepth 100000 in
set_option maxHeartbeats 4000000 in
theorem t_X2_criticalSource_0 {Γ : GG} {P : MP} {I : MM} {R : Int → MM → Prop} {x1 : Int} {q σ κ n : Nat} (hs : LSch Γ P q σ κ n)
    (h : (inR x1) ∧ (0 ≤ x1) ∧ (inR (x1 % 6)) ∧ (((x1 % 6) ≠ 0 → (Cl Γ m_X2_completedAt [vR q, vI (x1 - 1)] P I (ri P (fun (z6 : Int) (I7 : MM) => (x1 < 36) ∧ (inR z6) ∧ (inR (I7 (q + 1) (x1).toNat)) ∧ ((z6 ≠ (I7 (q + 1) (x1).toNat) → R (I7 (q + 2) (x1).toNat) I7) ∧ (z6 = (I7 (q + 1) (x1).toNat) → R (x1 - 1) I7)))))) ∧ ((x1 % 6) = 0 → (x1 < 36) ∧ (0 ≤ (x1 / 6)) ∧ ((x1 / 6) < 6) ∧ (inR (I (q + 1) (x1).toNat)) ∧ (inR (I (σ + 4) ((x1 / 6)).toNat)) ∧ (((I (q + 1) (x1).toNat) ≠ (I (σ + 4) ((x1 / 6)).toNat) → R (I (q + 2) (x1).toNat) I) ∧ ((I (q + 1) (x1).toNat) = (I (σ + 4) ((x1 / 6)).toNat) → R (-1) I))))) :
    XM Γ m_X2_criticalSource 0 0 0 [(0, vR q), (1, vI x1)] [] P I (ri P R) := by
  refine x_iload_n (pc := 0) 1 dX2_criticalSource_0 rfl ?_
  refine x_bipush (pc := 1) dX2_criticalSource_1 rfl ?_
  obtain ⟨hr1, h⟩ := h
  obtain ⟨hv2, h⟩ := h
  refine x_irem (pc := 3) dX2_criticalSource_3 hr1 ⟨by decide, by decide⟩ hv2 (by decide) ?_
  obtain ⟨hr3, h⟩ := h
  obtain ⟨hA4, hB5⟩ := h
  refine x_if_ne (pc := 4) 11 dX2_criticalSource_4 (by decide) hr3 (fun hc => ?_) (fun hc => ?_)
  · have h := hA4 hc
    refine x_iconst (pc := 11) dX2_criticalSource_11 ?_
    refine x_istore_n (pc := 12) (al' := [(0, vR q), (1, vI x1), (2, vI 0)]) dX2_criticalSource_12 rfl rfl (Nat.le_of_ble_eq_true rfl) ?_
    refine x_iload_n (pc := 13) 2 dX2_criticalSource_13 rfl ?_
    refine x_if_eq (pc := 14) 43 dX2_criticalSource_14 (by decide) ⟨by decide, by decide⟩ (fun hc => ?_) (fun hc => absurd hc (by decide))
    refine x_iload_n (pc := 43) 2 dX2_criticalSource_43 rfl ?_
    refine x_if_ne (pc := 44) 67 dX2_criticalSource_44 (by decide) ⟨by decide, by decide⟩ (fun hc => absurd hc (by decide)) (fun hc => ?_)
    refine x_aload_n (pc := 47) 0 dX2_criticalSource_47 rfl ?_
    refine x_iload_n (pc := 48) 1 dX2_criticalSource_48 rfl ?_
    refine x_iconst (pc := 49) dX2_criticalSource_49 ?_
    refine x_isub (pc := 50) dX2_criticalSource_50 ?_
    refine x_Vi (μ := m_X2_criticalSource) (pc := 51) dX2_criticalSource_51 h k_X2_completedAt ml_X2_129 ⟨Nat.le_of_ble_eq_true rfl, Nat.le_of_ble_eq_true rfl⟩ ⟨rfl, rfl⟩ ⟨Nat.zero_le _, Nat.zero_le _⟩ rfl (LSch_ob hs) rfl (Nat.le_of_ble_eq_true rfl) _ rfl (fun z6 I7 h => ?_)
    refine x_aload_n (pc := 54) 0 dX2_criticalSource_54 rfl ?_
    refine x_getP (pc := 55) dX2_criticalSource_55 FC2 1 (by decide) rfl fl_X2_9 (LSch_ob hs) (LSch_p1 hs) ?_
    refine x_iload_n (pc := 58) 1 dX2_criticalSource_58 rfl ?_
    obtain ⟨hv8, h⟩ := h
    refine x_iald (pc := 59) dX2_criticalSource_59 (LSch_a1 hs) hv2 hv8 (by decide) ?_
    obtain ⟨hr9, h⟩ := h
    obtain ⟨hr10, h⟩ := h
    obtain ⟨hA11, hB12⟩ := h
    refine x_icmp_ne (pc := 60) 67 dX2_criticalSource_60 (by decide) hr9 hr10 (fun hc => ?_) (fun hc => ?_)
    · have h := hA11 hc
      refine x_aload_n (pc := 67) 0 dX2_criticalSource_67 rfl ?_
      refine x_getP (pc := 68) dX2_criticalSource_68 FC2 2 (by decide) rfl fl_X2_15 (LSch_ob hs) (LSch_p2 hs) ?_
      refine x_iload_n (pc := 71) 1 dX2_criticalSource_71 rfl ?_
      refine x_iald (pc := 72) dX2_criticalSource_72 (LSch_a2 hs) hv2 hv8 (by decide) ?_
      exact x_iret (pc := 73) dX2_criticalSource_73 rfl (Nat.le_refl _) (Nat.le_refl _) ⟨_, rfl, rfl, h⟩
    · have h := hB12 hc
      refine x_iload_n (pc := 63) 1 dX2_criticalSource_63 rfl ?_
      refine x_iconst (pc := 64) dX2_criticalSource_64 ?_
      refine x_isub (pc := 65) dX2_criticalSource_65 ?_
      exact x_iret (pc := 66) dX2_criticalSource_66 rfl (Nat.le_refl _) (Nat.le_refl _) ⟨_, rfl, rfl, h⟩
  · have h := hB5 hc
    refine x_iconst (pc := 7) dX2_criticalSource_7 ?_
    refine x_goto (pc := 8) 12 dX2_criticalSource_8 (by decide) ?_
    refine x_istore_n (pc := 12) (al' := [(0, vR q), (1, vI x1), (2, vI 1)]) dX2_criticalSource_12 rfl rfl (Nat.le_of_ble_eq_true rfl) ?_
    refine x_iload_n (pc := 13) 2 dX2_criticalSource_13 rfl ?_
    refine x_if_eq (pc := 14) 43 dX2_criticalSource_14 (by decide) ⟨by decide, by decide⟩ (fun hc => absurd hc (by decide)) (fun hc => ?_)
    refine x_aload_n (pc := 17) 0 dX2_criticalSource_17 rfl ?_
    refine x_getP (pc := 18) dX2_criticalSource_18 FC2 1 (by decide) rfl fl_X2_9 (LSch_ob hs) (LSch_p1 hs) ?_
    refine x_iload_n (pc := 21) 1 dX2_criticalSource_21 rfl ?_
    obtain ⟨hv13, h⟩ := h
    refine x_iald (pc := 22) dX2_criticalSource_22 (LSch_a1 hs) hv2 hv13 (by decide) ?_
    refine x_aload_n (pc := 23) 0 dX2_criticalSource_23 rfl ?_
    refine x_getP (pc := 24) dX2_criticalSource_24 FC2 0 (by decide) rfl fl_X2_44 (LSch_ob hs) (LSch_p0 hs) ?_
    refine x_getP (pc := 27) dX2_criticalSource_27 FC1 0 (by decide) rfl fl_X2_48 (LPlan_ob (LSch_p hs)) (LPlan_p0 (LSch_p hs)) ?_
    refine x_getP (pc := 30) dX2_criticalSource_30 FC4 6 (by decide) rfl fl_X2_104 (LShop_ob (LPlan_s (LSch_p hs))) (LShop_p6 (LPlan_s (LSch_p hs))) ?_
    refine x_iload_n (pc := 33) 1 dX2_criticalSource_33 rfl ?_
    refine x_bipush (pc := 34) dX2_criticalSource_34 rfl ?_
    refine x_idiv (pc := 36) dX2_criticalSource_36 hr1 ⟨by decide, by decide⟩ hv2 (by decide) ?_
    obtain ⟨hv14, h⟩ := h
    obtain ⟨hv15, h⟩ := h
    refine x_iald (pc := 37) dX2_criticalSource_37 (LShop_a6 (LPlan_s (LSch_p hs))) hv14 hv15 (by decide) ?_
    obtain ⟨hr16, h⟩ := h
    obtain ⟨hr17, h⟩ := h
    obtain ⟨hA18, hB19⟩ := h
    refine x_icmp_ne (pc := 38) 43 dX2_criticalSource_38 (by decide) hr16 hr17 (fun hc => ?_) (fun hc => ?_)
    · have h := hA18 hc
      refine x_iload_n (pc := 43) 2 dX2_criticalSource_43 rfl ?_
      refine x_if_ne (pc := 44) 67 dX2_criticalSource_44 (by decide) ⟨by decide, by decide⟩ (fun hc => ?_) (fun hc => absurd hc (by decide))
      refine x_aload_n (pc := 67) 0 dX2_criticalSource_67 rfl ?_
      refine x_getP (pc := 68) dX2_criticalSource_68 FC2 2 (by decide) rfl fl_X2_15 (LSch_ob hs) (LSch_p2 hs) ?_
      refine x_iload_n (pc := 71) 1 dX2_criticalSource_71 rfl ?_
      refine x_iald (pc := 72) dX2_criticalSource_72 (LSch_a2 hs) hv2 hv13 (by decide) ?_
      exact x_iret (pc := 73) dX2_criticalSource_73 rfl (Nat.le_refl _) (Nat.le_refl _) ⟨_, rfl, rfl, h⟩
    · have h := hB19 hc
      refine x_iconst (pc := 41) dX2_criticalSource_41 ?_
      exact x_iret (pc := 42) dX2_criticalSource_42 rfl (Nat.le_refl _) (Nat.le_refl _) ⟨_, rfl, rfl, h⟩
set_option maxRecDepth 100000 in
set_option maxHeartbeats 4000000 in
theorem t_X2_continuesBlock_0 {Γ : GG} {P : MP} {I : MM} {R : Int → MM → Prop} {x1 : Int} {q σ κ n : Nat} (hs : LSch Γ P q σ κ n)
    (h : (inR x1) ∧ ((x1 ≤ 0 → R 0 I) ∧ (¬ x1 ≤ 0 → (0 ≤ x1) ∧ (x1 < 36) ∧ (0 ≤ (I (q + 5) (x1).toNat)) ∧ ((I (q + 5) (x1).toNat) < 36) ∧ (0 ≤ (x1 - 1)) ∧ ((x1 - 1) < 36) ∧ (0 ≤ (I (q + 5) ((x1 - 1)).toNat)) ∧ ((I (q + 5) ((x1 - 1)).toNat) < 36) ∧ (inR (I (σ + 8) ((I (q + 5) (x1).toNat)).toNat)) ∧ (inR (I (σ + 8) ((I (q + 5) ((x1 - 1)).toNat)).toNat)) ∧ (((I (σ + 8) ((I (q + 5) (x1).toNat)).toNat) ≠ (I (σ + 8) ((I (q + 5) ((x1 - 1)).toNat)).toNat) → R 0 I) ∧ ((I (σ + 8) ((I (q + 5) (x1).toNat)).toNat) = (I (σ + 8) ((I (q + 5) ((x1 - 1)).toNat)).toNat) → R 1 I))))) :
    XM Γ m_X2_continuesBlock 0 0 0 [(0, vR q), (1, vI x1)] [] P I (ri P R) := by
  refine x_iload_n (pc := 0) 1 dX2_continuesBlock_0 rfl ?_
  obtain ⟨hr1, h⟩ := h
  obtain ⟨hA2, hB3⟩ := h
  refine x_if_le (pc := 1) 47 dX2_continuesBlock_1 (by decide) hr1 (fun hc => ?_) (fun hc => ?_)
  · have h := hA2 hc
    refine x_iconst (pc := 47) dX2_continuesBlock_47 ?_
    exact x_zret (pc := 48) dX2_continuesBlock_48 rfl (by decide) (Nat.le_refl _) (Nat.le_refl _) ⟨_, rfl, rfl, h⟩
  · have h := hB3 hc
    refine x_aload_n (pc := 4) 0 dX2_continuesBlock_4 rfl ?_
    refine x_getP (pc := 5) dX2_continuesBlock_5 FC2 0 (by decide) rfl fl_X2_44 (LSch_ob hs) (LSch_p0 hs) ?_
    refine x_getP (pc := 8) dX2_continuesBlock_8 FC1 0 (by decide) rfl fl_X2_48 (LPlan_ob (LSch_p hs)) (LPlan_p0 (LSch_p hs)) ?_
    refine x_getP (pc := 11) dX2_continuesBlock_11 FC4 10 (by decide) rfl fl_X2_126 (LShop_ob (LPlan_s (LSch_p hs))) (LShop_p10 (LPlan_s (LSch_p hs))) ?_
    refine x_aload_n (pc := 14) 0 dX2_continuesBlock_14 rfl ?_
    refine x_getP (pc := 15) dX2_continuesBlock_15 FC2 5 (by decide) rfl fl_X2_25 (LSch_ob hs) (LSch_p5 hs) ?_
    refine x_iload_n (pc := 18) 1 dX2_continuesBlock_18 rfl ?_
    obtain ⟨hv4, h⟩ := h
    obtain ⟨hv5, h⟩ := h
    refine x_iald (pc := 19) dX2_continuesBlock_19 (LSch_a5 hs) hv4 hv5 (by decide) ?_
    obtain ⟨hv6, h⟩ := h
    obtain ⟨hv7, h⟩ := h
    refine x_iald (pc := 20) dX2_continuesBlock_20 (LShop_a10 (LPlan_s (LSch_p hs))) hv6 hv7 (by decide) ?_
    refine x_aload_n (pc := 21) 0 dX2_continuesBlock_21 rfl ?_
    refine x_getP (pc := 22) dX2_continuesBlock_22 FC2 0 (by decide) rfl fl_X2_44 (LSch_ob hs) (LSch_p0 hs) ?_
    refine x_getP (pc := 25) dX2_continuesBlock_25 FC1 0 (by decide) rfl fl_X2_48 (LPlan_ob (LSch_p hs)) (LPlan_p0 (LSch_p hs)) ?_
    refine x_getP (pc := 28) dX2_continuesBlock_28 FC4 10 (by decide) rfl fl_X2_126 (LShop_ob (LPlan_s (LSch_p hs))) (LShop_p10 (LPlan_s (LSch_p hs))) ?_
    refine x_aload_n (pc := 31) 0 dX2_continuesBlock_31 rfl ?_
    refine x_getP (pc := 32) dX2_continuesBlock_32 FC2 5 (by decide) rfl fl_X2_25 (LSch_ob hs) (LSch_p5 hs) ?_
    refine x_iload_n (pc := 35) 1 dX2_continuesBlock_35 rfl ?_
    refine x_iconst (pc := 36) dX2_continuesBlock_36 ?_
    refine x_isub (pc := 37) dX2_continuesBlock_37 ?_
    obtain ⟨hv8, h⟩ := h
    obtain ⟨hv9, h⟩ := h
    refine x_iald (pc := 38) dX2_continuesBlock_38 (LSch_a5 hs) hv8 hv9 (by decide) ?_
    obtain ⟨hv10, h⟩ := h
    obtain ⟨hv11, h⟩ := h
    refine x_iald (pc := 39) dX2_continuesBlock_39 (LShop_a10 (LPlan_s (LSch_p hs))) hv10 hv11 (by decide) ?_
    obtain ⟨hr12, h⟩ := h
    obtain ⟨hr13, h⟩ := h
    obtain ⟨hA14, hB15⟩ := h
    refine x_icmp_ne (pc := 40) 47 dX2_continuesBlock_40 (by decide) hr12 hr13 (fun hc => ?_) (fun hc => ?_)
    · have h := hA14 hc
      refine x_iconst (pc := 47) dX2_continuesBlock_47 ?_
      exact x_zret (pc := 48) dX2_continuesBlock_48 rfl (by decide) (Nat.le_refl _) (Nat.le_refl _) ⟨_, rfl, rfl, h⟩
    · have h := hB15 hc
      refine x_iconst (pc := 43) dX2_continuesBlock_43 ?_
      refine x_goto (pc := 44) 48 dX2_continuesBlock_44 (by decide) ?_
      exact x_zret (pc := 48) dX2_continuesBlock_48 rfl (by decide) (Nat.le_refl _) (Nat.le_refl _) ⟨_, rfl, rfl, h⟩
