set_option maxRecDepth 100000 in
set_option maxHeartbeats 4000000 in
theorem t_X4_isLast_0 {Γ : GG} {P : MP} {I : MM} {R : Int → MM → Prop} {x1 : Int} {σ κ n : Nat} (hh : LShop Γ P σ κ n)
    (h : (inR x1) ∧ (0 ≤ x1) ∧ (0 ≤ (x1 / 6)) ∧ ((x1 / 6) < 6) ∧ (inR (x1 % 6)) ∧ (inR ((I (σ + 7) ((x1 / 6)).toNat) - 1)) ∧ (((x1 % 6) ≠ ((I (σ + 7) ((x1 / 6)).toNat) - 1) → R 0 I) ∧ ((x1 % 6) = ((I (σ + 7) ((x1 / 6)).toNat) - 1) → R 1 I))) :
    XM Γ m_X4_isLast 0 0 0 [(0, vR σ), (1, vI x1)] [] P I (ri P R) := by
  refine x_iload_n (pc := 0) 1 dX4_isLast_0 rfl ?_
  refine x_bipush (pc := 1) dX4_isLast_1 rfl ?_
  obtain ⟨hr1, h⟩ := h
  obtain ⟨hv2, h⟩ := h
  refine x_irem (pc := 3) dX4_isLast_3 hr1 ⟨by decide, by decide⟩ hv2 (by decide) ?_
  refine x_aload_n (pc := 4) 0 dX4_isLast_4 rfl ?_
  refine x_getP (pc := 5) dX4_isLast_5 FC4 9 (by decide) rfl fl_X4_42 (LShop_ob hh) (LShop_p9 hh) ?_
  refine x_iload_n (pc := 8) 1 dX4_isLast_8 rfl ?_
  refine x_bipush (pc := 9) dX4_isLast_9 rfl ?_
  refine x_idiv (pc := 11) dX4_isLast_11 hr1 ⟨by decide, by decide⟩ hv2 (by decide) ?_
  obtain ⟨hv3, h⟩ := h
  obtain ⟨hv4, h⟩ := h
  refine x_iald (pc := 12) dX4_isLast_12 (LShop_a9 hh) hv3 hv4 (by decide) ?_
  refine x_iconst (pc := 13) dX4_isLast_13 ?_
  refine x_isub (pc := 14) dX4_isLast_14 ?_
  obtain ⟨hr5, h⟩ := h
  obtain ⟨hr6, h⟩ := h
  obtain ⟨hA7, hB8⟩ := h
  refine x_icmp_ne (pc := 15) 22 dX4_isLast_15 (by decide) hr5 hr6 (fun hc => ?_) (fun hc => ?_)
  · have h := hA7 hc
    refine x_iconst (pc := 22) dX4_isLast_22 ?_
    exact x_zret (pc := 23) dX4_isLast_23 rfl (by decide) (Nat.le_refl _) (Nat.le_refl _) ⟨_, rfl, rfl, h⟩
  · have h := hB8 hc
    refine x_iconst (pc := 18) dX4_isLast_18 ?_
    refine x_goto (pc := 19) 23 dX4_isLast_19 (by decide) ?_
    exact x_zret (pc := 23) dX4_isLast_23 rfl (by decide) (Nat.le_refl _) (Nat.le_refl _) ⟨_, rfl, rfl, h⟩
set_option maxRecDepth 100000 in
set_option maxHeartbeats 4000000 in
theorem t_X5_append_0 {Γ : GG} {P : MP} {I : MM} {R : Int → MM → Prop} {x1 x2 x3 x4 x5 : Int} {σ κ n σ2 κ2 n2 : Nat} (hb : LBS Γ P σ κ n σ2 κ2 n2)
    (h : (inR (I 30 1)) ∧ (((I 30 1) ≤ 880 → (Cl Γ m_X5_putWord [vR 30, vI (I 30 1), vI x1] P I (rv P (fun (I4 : MM) => (Cl Γ m_X5_putWord [vR 30, vI ((I4 30 1) + 4), vI x2] P I4 (rv P (fun (I5 : MM) => (Cl Γ m_X5_putWord [vR 30, vI ((I5 30 1) + 8), vI x3] P I5 (rv P (fun (I6 : MM) => (Cl Γ m_X5_putWord [vR 30, vI ((I6 30 1) + 12), vI x4] P I6 (rv P (fun (I7 : MM) => (Cl Γ m_X5_putWord [vR 30, vI ((I7 30 1) + 16), vI x5] P I7 (rv P (fun (I8 : MM) => (∀ I9 : MM, I9 = up2 I8 30 1 ((I8 30 1) + 20) → R (I9 30 1) I9))))))))))))))))) ∧ (¬ (I 30 1) ≤ 880 → R (-1) I))) :
    XM Γ m_X5_append 0 0 0 [(0, vR 30), (1, vI x1), (2, vI x2), (3, vI x3), (4, vI x4), (5, vI x5)] [] P I (ri P R) := by
  refine x_aload_n (pc := 0) 0 dX5_append_0 rfl ?_
  refine x_getI (pc := 1) dX5_append_1 FC5 1 (by decide) rfl fl_X5_16 (LBS_ob hb) ?_
  refine x_sipush (pc := 4) dX5_append_4 rfl ?_
  obtain ⟨hr1, h⟩ := h
  obtain ⟨hA2, hB3⟩ := h
  refine x_icmp_le (pc := 7) 12 dX5_append_7 (by decide) hr1 ⟨by decide, by decide⟩ (fun hc => ?_) (fun hc => ?_)
  · have h := hA2 hc
    refine x_aload_n (pc := 12) 0 dX5_append_12 rfl ?_
    refine x_aload_n (pc := 13) 0 dX5_append_13 rfl ?_
    refine x_getI (pc := 14) dX5_append_14 FC5 1 (by decide) rfl fl_X5_16 (LBS_ob hb) ?_
    refine x_iload_n (pc := 17) 1 dX5_append_17 rfl ?_
    refine x_Vv (μ := m_X5_append) (pc := 18) dX5_append_18 h k_X5_putWord ml_X5_59 ⟨Nat.le_of_ble_eq_true rfl, Nat.le_of_ble_eq_true rfl⟩ ⟨rfl, rfl⟩ ⟨Nat.zero_le _, Nat.zero_le _⟩ rfl (LBS_ob hb) rfl (Nat.le_of_ble_eq_true rfl) _ rfl (fun I4 h => ?_)
    refine x_aload_n (pc := 21) 0 dX5_append_21 rfl ?_
    refine x_aload_n (pc := 22) 0 dX5_append_22 rfl ?_
    refine x_getI (pc := 23) dX5_append_23 FC5 1 (by decide) rfl fl_X5_16 (LBS_ob hb) ?_
    refine x_iconst (pc := 26) dX5_append_26 ?_
    refine x_iadd (pc := 27) dX5_append_27 ?_
    refine x_iload_n (pc := 28) 2 dX5_append_28 rfl ?_
    refine x_Vv (μ := m_X5_append) (pc := 29) dX5_append_29 h k_X5_putWord ml_X5_59 ⟨Nat.le_of_ble_eq_true rfl, Nat.le_of_ble_eq_true rfl⟩ ⟨rfl, rfl⟩ ⟨Nat.zero_le _, Nat.zero_le _⟩ rfl (LBS_ob hb) rfl (Nat.le_of_ble_eq_true rfl) _ rfl (fun I5 h => ?_)
    refine x_aload_n (pc := 32) 0 dX5_append_32 rfl ?_
    refine x_aload_n (pc := 33) 0 dX5_append_33 rfl ?_
    refine x_getI (pc := 34) dX5_append_34 FC5 1 (by decide) rfl fl_X5_16 (LBS_ob hb) ?_
    refine x_bipush (pc := 37) dX5_append_37 rfl ?_
    refine x_iadd (pc := 39) dX5_append_39 ?_
    refine x_iload_n (pc := 40) 3 dX5_append_40 rfl ?_
    refine x_Vv (μ := m_X5_append) (pc := 41) dX5_append_41 h k_X5_putWord ml_X5_59 ⟨Nat.le_of_ble_eq_true rfl, Nat.le_of_ble_eq_true rfl⟩ ⟨rfl, rfl⟩ ⟨Nat.zero_le _, Nat.zero_le _⟩ rfl (LBS_ob hb) rfl (Nat.le_of_ble_eq_true rfl) _ rfl (fun I6 h => ?_)
    refine x_aload_n (pc := 44) 0 dX5_append_44 rfl ?_
    refine x_aload_n (pc := 45) 0 dX5_append_45 rfl ?_
    refine x_getI (pc := 46) dX5_append_46 FC5 1 (by decide) rfl fl_X5_16 (LBS_ob hb) ?_
    refine x_bipush (pc := 49) dX5_append_49 rfl ?_
    refine x_iadd (pc := 51) dX5_append_51 ?_
    refine x_iload (pc := 52) 4 dX5_append_52 rfl ?_
    refine x_Vv (μ := m_X5_append) (pc := 54) dX5_append_54 h k_X5_putWord ml_X5_59 ⟨Nat.le_of_ble_eq_true rfl, Nat.le_of_ble_eq_true rfl⟩ ⟨rfl, rfl⟩ ⟨Nat.zero_le _, Nat.zero_le _⟩ rfl (LBS_ob hb) rfl (Nat.le_of_ble_eq_true rfl) _ rfl (fun I7 h => ?_)
    refine x_aload_n (pc := 57) 0 dX5_append_57 rfl ?_
    refine x_aload_n (pc := 58) 0 dX5_append_58 rfl ?_
    refine x_getI (pc := 59) dX5_append_59 FC5 1 (by decide) rfl fl_X5_16 (LBS_ob hb) ?_
    refine x_bipush (pc := 62) dX5_append_62 rfl ?_
    refine x_iadd (pc := 64) dX5_append_64 ?_
    refine x_iload (pc := 65) 5 dX5_append_65 rfl ?_
    refine x_Vv (μ := m_X5_append) (pc := 67) dX5_append_67 h k_X5_putWord ml_X5_59 ⟨Nat.le_of_ble_eq_true rfl, Nat.le_of_ble_eq_true rfl⟩ ⟨rfl, rfl⟩ ⟨Nat.zero_le _, Nat.zero_le _⟩ rfl (LBS_ob hb) rfl (Nat.le_of_ble_eq_true rfl) _ rfl (fun I8 h => ?_)
    refine x_aload_n (pc := 70) 0 dX5_append_70 rfl ?_
    refine x_dup (pc := 71) dX5_append_71 rfl ?_
    refine x_getI (pc := 72) dX5_append_72 FC5 1 (by decide) rfl fl_X5_16 (LBS_ob hb) ?_
    refine x_bipush (pc := 75) dX5_append_75 rfl ?_
    refine x_iadd (pc := 77) dX5_append_77 ?_
    refine x_putI (pc := 78) dX5_append_78 FC5 1 (by decide) rfl rfl fl_X5_16 (LBS_ob hb) ?_
    refine x_nmI (fun I9 eI9 => ?_)
    have h := h I9 eI9
    refine x_aload_n (pc := 81) 0 dX5_append_81 rfl ?_
    refine x_getI (pc := 82) dX5_append_82 FC5 1 (by decide) rfl fl_X5_16 (LBS_ob hb) ?_
    exact x_iret (pc := 85) dX5_append_85 rfl (Nat.le_refl _) (Nat.le_refl _) ⟨_, rfl, rfl, h⟩
  · have h := hB3 hc
    refine x_iconst (pc := 10) dX5_append_10 ?_
    exact x_iret (pc := 11) dX5_append_11 rfl (Nat.le_refl _) (Nat.le_refl _) ⟨_, rfl, rfl, h⟩
set_option maxRecDepth 100000 in
set_option maxHeartbeats 4000000 in
theorem t_X5_putWord_0 {Γ : GG} {P : MP} {I : MM} {R : MM → Prop} {x1 x2 : Int} {σ κ n σ2 κ2 n2 : Nat} (hb : LBS Γ P σ κ n σ2 κ2 n2)
    (h : (inR x1) ∧ ((x1 < 0 → R I) ∧ (¬ x1 < 0 → ((x1 ≤ 896 → (0 ≤ x1) ∧ (x1 < 900) ∧ (-128 ≤ (b8 (x2 % 4294967296 / 16777216))) ∧ ((b8 (x2 % 4294967296 / 16777216)) < 128) ∧ (∀ I10 : MM, I10 = up2 I 32 (x1).toNat (b8 (x2 % 4294967296 / 16777216)) → (0 ≤ (x1 + 1)) ∧ ((x1 + 1) < 900) ∧ (-128 ≤ (b8 (x2 % 4294967296 / 65536))) ∧ ((b8 (x2 % 4294967296 / 65536)) < 128) ∧ (∀ I15 : MM, I15 = up2 I10 32 ((x1 + 1)).toNat (b8 (x2 % 4294967296 / 65536)) → (0 ≤ (x1 + 2)) ∧ ((x1 + 2) < 900) ∧ (-128 ≤ (b8 (x2 % 4294967296 / 256))) ∧ ((b8 (x2 % 4294967296 / 256)) < 128) ∧ (∀ I20 : MM, I20 = up2 I15 32 ((x1 + 2)).toNat (b8 (x2 % 4294967296 / 256)) → (0 ≤ (x1 + 3)) ∧ ((x1 + 3) < 900) ∧ (-128 ≤ (b8 x2)) ∧ ((b8 x2) < 128) ∧ (∀ I25 : MM, I25 = up2 I20 32 ((x1 + 3)).toNat (b8 x2) → R I25))))) ∧ (¬ x1 ≤ 896 → R I))))) :
    XM Γ m_X5_putWord 0 0 0 [(0, vR 30), (1, vI x1), (2, vI x2)] [] P I (rv P R) := by
  refine x_iload_n (pc := 0) 1 dX5_putWord_0 rfl ?_
  obtain ⟨hr1, h⟩ := h
  obtain ⟨hA2, hB3⟩ := h
  refine x_if_lt (pc := 1) 11 dX5_putWord_1 (by decide) hr1 (fun hc => ?_) (fun hc => ?_)
  · have h := hA2 hc
    exact x_vret (pc := 11) dX5_putWord_11 rfl (Nat.le_refl _) (Nat.le_refl _) ⟨rfl, rfl, h⟩
  · have h := hB3 hc
    refine x_iload_n (pc := 4) 1 dX5_putWord_4 rfl ?_
    refine x_sipush (pc := 5) dX5_putWord_5 rfl ?_
    obtain ⟨hA4, hB5⟩ := h
    refine x_icmp_le (pc := 8) 12 dX5_putWord_8 (by decide) hr1 ⟨by decide, by decide⟩ (fun hc => ?_) (fun hc => ?_)
    · have h := hA4 hc
      refine x_aload_n (pc := 12) 0 dX5_putWord_12 rfl ?_
      refine x_getP (pc := 13) dX5_putWord_13 FC5 0 (by decide) rfl fl_X5_12 (LBS_ob hb) (LBS_p0 hb) ?_
      refine x_getP (pc := 16) dX5_putWord_16 FC3 0 (by decide) rfl fl_X5_63 (LRead_ob (LBS_r hb)) (LRead_p0 (LBS_r hb)) ?_
      refine x_iload_n (pc := 19) 1 dX5_putWord_19 rfl ?_
      refine x_iload_n (pc := 20) 2 dX5_putWord_20 rfl ?_
      refine x_bipush (pc := 21) dX5_putWord_21 rfl ?_
      refine x_iushr (pc := 23) dX5_putWord_23 24 (by decide +kernel) ?_
      refine x_i2b (pc := 24) dX5_putWord_24 ?_
      obtain ⟨hv6, h⟩ := h
      obtain ⟨hv7, h⟩ := h
      obtain ⟨hv8, h⟩ := h
      obtain ⟨hv9, h⟩ := h
      refine x_bast (pc := 25) dX5_putWord_25 (LRead_a0 (LBS_r hb)) hv6 hv7 (by decide) hv8 hv9 ?_
      refine x_nmI (fun I10 eI10 => ?_)
      have h := h I10 eI10
      refine x_aload_n (pc := 26) 0 dX5_putWord_26 rfl ?_
      refine x_getP (pc := 27) dX5_putWord_27 FC5 0 (by decide) rfl fl_X5_12 (LBS_ob hb) (LBS_p0 hb) ?_
      refine x_getP (pc := 30) dX5_putWord_30 FC3 0 (by decide) rfl fl_X5_63 (LRead_ob (LBS_r hb)) (LRead_p0 (LBS_r hb)) ?_
      refine x_iload_n (pc := 33) 1 dX5_putWord_33 rfl ?_
      refine x_iconst (pc := 34) dX5_putWord_34 ?_
      refine x_iadd (pc := 35) dX5_putWord_35 ?_
      refine x_iload_n (pc := 36) 2 dX5_putWord_36 rfl ?_
      refine x_bipush (pc := 37) dX5_putWord_37 rfl ?_
      refine x_iushr (pc := 39) dX5_putWord_39 16 (by decide +kernel) ?_
      refine x_i2b (pc := 40) dX5_putWord_40 ?_
      obtain ⟨hv11, h⟩ := h
      obtain ⟨hv12, h⟩ := h
      obtain ⟨hv13, h⟩ := h
      obtain ⟨hv14, h⟩ := h
      refine x_bast (pc := 41) dX5_putWord_41 (LRead_a0 (LBS_r hb)) hv11 hv12 (by decide) hv13 hv14 ?_
      refine x_nmI (fun I15 eI15 => ?_)
      have h := h I15 eI15
      refine x_aload_n (pc := 42) 0 dX5_putWord_42 rfl ?_
      refine x_getP (pc := 43) dX5_putWord_43 FC5 0 (by decide) rfl fl_X5_12 (LBS_ob hb) (LBS_p0 hb) ?_
      refine x_getP (pc := 46) dX5_putWord_46 FC3 0 (by decide) rfl fl_X5_63 (LRead_ob (LBS_r hb)) (LRead_p0 (LBS_r hb)) ?_
      refine x_iload_n (pc := 49) 1 dX5_putWord_49 rfl ?_
      refine x_iconst (pc := 50) dX5_putWord_50 ?_
      refine x_iadd (pc := 51) dX5_putWord_51 ?_
      refine x_iload_n (pc := 52) 2 dX5_putWord_52 rfl ?_
      refine x_bipush (pc := 53) dX5_putWord_53 rfl ?_
      refine x_iushr (pc := 55) dX5_putWord_55 8 (by decide +kernel) ?_
      refine x_i2b (pc := 56) dX5_putWord_56 ?_
      obtain ⟨hv16, h⟩ := h
      obtain ⟨hv17, h⟩ := h
      obtain ⟨hv18, h⟩ := h
      obtain ⟨hv19, h⟩ := h
      refine x_bast (pc := 57) dX5_putWord_57 (LRead_a0 (LBS_r hb)) hv16 hv17 (by decide) hv18 hv19 ?_
      refine x_nmI (fun I20 eI20 => ?_)
      have h := h I20 eI20
      refine x_aload_n (pc := 58) 0 dX5_putWord_58 rfl ?_
      refine x_getP (pc := 59) dX5_putWord_59 FC5 0 (by decide) rfl fl_X5_12 (LBS_ob hb) (LBS_p0 hb) ?_
      refine x_getP (pc := 62) dX5_putWord_62 FC3 0 (by decide) rfl fl_X5_63 (LRead_ob (LBS_r hb)) (LRead_p0 (LBS_r hb)) ?_
      refine x_iload_n (pc := 65) 1 dX5_putWord_65 rfl ?_
      refine x_iconst (pc := 66) dX5_putWord_66 ?_
      refine x_iadd (pc := 67) dX5_putWord_67 ?_
      refine x_iload_n (pc := 68) 2 dX5_putWord_68 rfl ?_
      refine x_i2b (pc := 69) dX5_putWord_69 ?_
      obtain ⟨hv21, h⟩ := h
      obtain ⟨hv22, h⟩ := h
      obtain ⟨hv23, h⟩ := h
      obtain ⟨hv24, h⟩ := h
      refine x_bast (pc := 70) dX5_putWord_70 (LRead_a0 (LBS_r hb)) hv21 hv22 (by decide) hv23 hv24 ?_
      refine x_nmI (fun I25 eI25 => ?_)
      have h := h I25 eI25
      exact x_vret (pc := 71) dX5_putWord_71 rfl (Nat.le_refl _) (Nat.le_refl _) ⟨rfl, rfl, h⟩
    · have h := hB5 hc
      exact x_vret (pc := 11) dX5_putWord_11 rfl (Nat.le_refl _) (Nat.le_refl _) ⟨rfl, rfl, h⟩
set_option maxRecDepth 100000 in
set_option maxHeartbeats 4000000 in
theorem t_X5_errorOffset_0 {Γ : GG} {P : MP} {I : MM} {R : Int → MM → Prop} {σ κ n σ2 κ2 n2 : Nat} (hb : LBS Γ P σ κ n σ2 κ2 n2)
    (h : R (I 30 2) I) :
    XM Γ m_X5_errorOffset 0 0 0 [(0, vR 30)] [] P I (ri P R) := by
  refine x_aload_n (pc := 0) 0 dX5_errorOffset_0 rfl ?_
  refine x_getI (pc := 1) dX5_errorOffset_1 FC5 2 (by decide) rfl fl_X5_20 (LBS_ob hb) ?_
  exact x_iret (pc := 4) dX5_errorOffset_4 rfl (Nat.le_refl _) (Nat.le_refl _) ⟨_, rfl, rfl, h⟩
set_option maxRecDepth 100000 in
set_option maxHeartbeats 4000000 in
theorem t_X5_machineCount_0 {Γ : GG} {P : MP} {I : MM} {R : Int → MM → Prop} {σ κ n σ2 κ2 n2 : Nat} (hb : LBS Γ P σ κ n σ2 κ2 n2)
    (h : R (I σ 0) I) :
    XM Γ m_X5_machineCount 0 0 0 [(0, vR 30)] [] P I (ri P R) := by
  refine x_aload_n (pc := 0) 0 dX5_machineCount_0 rfl ?_
  refine x_getP (pc := 1) dX5_machineCount_1 FC5 4 (by decide) rfl fl_X5_51 (LBS_ob hb) (LBS_p4 hb) ?_
  refine x_getP (pc := 4) dX5_machineCount_4 FC1 0 (by decide) rfl fl_X5_95 (LPlan_ob (LSch_p (LBS_s hb))) (LPlan_p0 (LSch_p (LBS_s hb))) ?_
  refine x_getI (pc := 7) dX5_machineCount_7 FC4 0 (by decide) rfl fl_X5_99 (LShop_ob (LPlan_s (LSch_p (LBS_s hb)))) ?_
  exact x_iret (pc := 10) dX5_machineCount_10 rfl (Nat.le_refl _) (Nat.le_refl _) ⟨_, rfl, rfl, h⟩
set_option maxRecDepth 100000 in
set_option maxHeartbeats 4000000 in
theorem t_X5_jobCount_0 {Γ : GG} {P : MP} {I : MM} {R : Int → MM → Prop} {σ κ n σ2 κ2 n2 : Nat} (hb : LBS Γ P σ κ n σ2 κ2 n2)
    (h : R (I σ 1) I) :
    XM Γ m_X5_jobCount 0 0 0 [(0, vR 30)] [] P I (ri P R) := by
  refine x_aload_n (pc := 0) 0 dX5_jobCount_0 rfl ?_
  refine x_getP (pc := 1) dX5_jobCount_1 FC5 4 (by decide) rfl fl_X5_51 (LBS_ob hb) (LBS_p4 hb) ?_
  refine x_getP (pc := 4) dX5_jobCount_4 FC1 0 (by decide) rfl fl_X5_95 (LPlan_ob (LSch_p (LBS_s hb))) (LPlan_p0 (LSch_p (LBS_s hb))) ?_
  refine x_getI (pc := 7) dX5_jobCount_7 FC4 1 (by decide) rfl fl_X5_92 (LShop_ob (LPlan_s (LSch_p (LBS_s hb)))) ?_
  exact x_iret (pc := 10) dX5_jobCount_10 rfl (Nat.le_refl _) (Nat.le_refl _) ⟨_, rfl, rfl, h⟩
set_option maxRecDepth 100000 in
set_option maxHeartbeats 4000000 in
theorem t_X5_operationCount_0 {Γ : GG} {P : MP} {I : MM} {R : Int → MM → Prop} {x1 : Int} {σ κ n σ2 κ2 n2 : Nat} (hb : LBS Γ P σ κ n σ2 κ2 n2)
    (h : (Cl Γ m_X5_needJob [vR 30, vI x1] P I (rv P (fun (I1 : MM) => (0 ≤ x1) ∧ (x1 < 6) ∧ R (I1 (σ + 7) (x1).toNat) I1)))) :
    XM Γ m_X5_operationCount 0 0 0 [(0, vR 30), (1, vI x1)] [] P I (ri P R) := by
  refine x_aload_n (pc := 0) 0 dX5_operationCount_0 rfl ?_
  refine x_iload_n (pc := 1) 1 dX5_operationCount_1 rfl ?_
  refine x_Vv (μ := m_X5_operationCount) (pc := 2) dX5_operationCount_2 h k_X5_needJob ml_X5_102 ⟨Nat.le_of_ble_eq_true rfl, Nat.le_of_ble_eq_true rfl⟩ ⟨rfl, rfl⟩ ⟨Nat.zero_le _, Nat.zero_le _⟩ rfl (LBS_ob hb) rfl (Nat.le_of_ble_eq_true rfl) _ rfl (fun I1 h => ?_)
  refine x_aload_n (pc := 5) 0 dX5_operationCount_5 rfl ?_
  refine x_getP (pc := 6) dX5_operationCount_6 FC5 4 (by decide) rfl fl_X5_51 (LBS_ob hb) (LBS_p4 hb) ?_
  refine x_getP (pc := 9) dX5_operationCount_9 FC1 0 (by decide) rfl fl_X5_95 (LPlan_ob (LSch_p (LBS_s hb))) (LPlan_p0 (LSch_p (LBS_s hb))) ?_
  refine x_getP (pc := 12) dX5_operationCount_12 FC4 9 (by decide) rfl fl_X5_106 (LShop_ob (LPlan_s (LSch_p (LBS_s hb)))) (LShop_p9 (LPlan_s (LSch_p (LBS_s hb)))) ?_
  refine x_iload_n (pc := 15) 1 dX5_operationCount_15 rfl ?_
  obtain ⟨hv2, h⟩ := h
  obtain ⟨hv3, h⟩ := h
  refine x_iald (pc := 16) dX5_operationCount_16 (LShop_a9 (LPlan_s (LSch_p (LBS_s hb)))) hv2 hv3 (by decide) ?_
  exact x_iret (pc := 17) dX5_operationCount_17 rfl (Nat.le_refl _) (Nat.le_refl _) ⟨_, rfl, rfl, h⟩
set_option maxRecDepth 100000 in
set_option maxHeartbeats 4000000 in
theorem t_X5_operation_0 {Γ : GG} {P : MP} {I : MM} {R : Int → MM → Prop} {x1 x2 x3 : Int} {σ κ n σ2 κ2 n2 : Nat} (hb : LBS Γ P σ κ n σ2 κ2 n2)
    (h : (Cl Γ m_X5_needOperation [vR 30, vI x1, vI x2] P I (rv P (fun (I1 : MM) => (Cl Γ m_X5_idOf [vI x1, vI x2] P I1 (ri P (fun (z2 : Int) (I3 : MM) => (inR x3) ∧ ((x3 = 0 → (0 ≤ z2) ∧ (z2 < 36) ∧ R (I3 (σ + 8) (z2).toNat) I3) ∧ (x3 = 1 → (0 ≤ z2) ∧ (z2 < 36) ∧ R (I3 (48 + 1) (z2).toNat) I3) ∧ (x3 = 2 → (Cl Γ m_X1_positionOf [vR 48, vI z2] P I3 (ri P (fun (z11 : Int) (I12 : MM) => R z11 I12)))) ∧ ((x3 < 0 ∨ 2 < x3) → False))))))))) :
    XM Γ m_X5_operation 0 0 0 [(0, vR 30), (1, vI x1), (2, vI x2), (3, vI x3)] [] P I (ri P R) := by
  refine x_aload_n (pc := 0) 0 dX5_operation_0 rfl ?_
  refine x_iload_n (pc := 1) 1 dX5_operation_1 rfl ?_
  refine x_iload_n (pc := 2) 2 dX5_operation_2 rfl ?_
  refine x_Vv (μ := m_X5_operation) (pc := 3) dX5_operation_3 h k_X5_needOperation ml_X5_110 ⟨Nat.le_of_ble_eq_true rfl, Nat.le_of_ble_eq_true rfl⟩ ⟨rfl, rfl⟩ ⟨Nat.zero_le _, Nat.zero_le _⟩ rfl (LBS_ob hb) rfl (Nat.le_of_ble_eq_true rfl) _ rfl (fun I1 h => ?_)
  refine x_iload_n (pc := 6) 1 dX5_operation_6 rfl ?_
  refine x_iload_n (pc := 7) 2 dX5_operation_7 rfl ?_
  refine x_Si (μ := m_X5_operation) (pc := 8) dX5_operation_8 h k_X5_idOf ml_X5_113 ⟨Nat.le_of_ble_eq_true rfl, Nat.le_of_ble_eq_true rfl⟩ ⟨rfl, rfl⟩ ⟨Nat.zero_le _, Nat.zero_le _⟩ rfl (Nat.le_of_ble_eq_true rfl) _ rfl (fun z2 I3 h => ?_)
  refine x_istore (pc := 11) (al' := [(0, vR 30), (1, vI x1), (2, vI x2), (3, vI x3), (4, vI z2)]) dX5_operation_11 rfl rfl (Nat.le_of_ble_eq_true rfl) ?_
  refine x_iload_n (pc := 13) 3 dX5_operation_13 rfl ?_
  obtain ⟨hr4, h⟩ := h
  obtain ⟨hA7, hA10, hA13, hA14⟩ := h
  by_cases ho : x3 < 0 ∨ 2 < x3
  · have h := hA14 ho
    refine x_tableOut (pc := 14) 75 dX5_operation_14 hr4 ho (by decide) ?_
    exact h.elim
  · rcases (by omega : x3 = 0 ∨ x3 = 1 ∨ x3 = 2) with hq | hq | hq
    · have h := hA7 hq
      refine x_tableIn (pc := 14) 40 dX5_operation_14 hr4 (by omega) (by omega) (by rw [hq]; rfl) (by decide) ?_
      refine x_aload_n (pc := 40) 0 dX5_operation_40 rfl ?_
      refine x_getP (pc := 41) dX5_operation_41 FC5 4 (by decide) rfl fl_X5_51 (LBS_ob hb) (LBS_p4 hb) ?_
      refine x_getP (pc := 44) dX5_operation_44 FC1 0 (by decide) rfl fl_X5_95 (LPlan_ob (LSch_p (LBS_s hb))) (LPlan_p0 (LSch_p (LBS_s hb))) ?_
      refine x_getP (pc := 47) dX5_operation_47 FC4 10 (by decide) rfl fl_X5_117 (LShop_ob (LPlan_s (LSch_p (LBS_s hb)))) (LShop_p10 (LPlan_s (LSch_p (LBS_s hb)))) ?_
      refine x_iload (pc := 50) 4 dX5_operation_50 rfl ?_
      obtain ⟨hv5, h⟩ := h
      obtain ⟨hv6, h⟩ := h
      refine x_iald (pc := 52) dX5_operation_52 (LShop_a10 (LPlan_s (LSch_p (LBS_s hb)))) hv5 hv6 (by decide) ?_
      exact x_iret (pc := 53) dX5_operation_53 rfl (Nat.le_refl _) (Nat.le_refl _) ⟨_, rfl, rfl, h⟩
    · have h := hA10 hq
      refine x_tableIn (pc := 14) 54 dX5_operation_14 hr4 (by omega) (by omega) (by rw [hq]; rfl) (by decide) ?_
      refine x_aload_n (pc := 54) 0 dX5_operation_54 rfl ?_
      refine x_getP (pc := 55) dX5_operation_55 FC5 4 (by decide) rfl fl_X5_51 (LBS_ob hb) (LBS_p4 hb) ?_
      refine x_getP (pc := 58) dX5_operation_58 FC1 1 (by decide) rfl fl_X5_120 (LPlan_ob (LSch_p (LBS_s hb))) (LPlan_p1 (LSch_p (LBS_s hb))) ?_
      refine x_iload (pc := 61) 4 dX5_operation_61 rfl ?_
      obtain ⟨hv8, h⟩ := h
      obtain ⟨hv9, h⟩ := h
      refine x_iald (pc := 63) dX5_operation_63 (LPlan_a1 (LSch_p (LBS_s hb))) hv8 hv9 (by decide) ?_
      exact x_iret (pc := 64) dX5_operation_64 rfl (Nat.le_refl _) (Nat.le_refl _) ⟨_, rfl, rfl, h⟩
    · have h := hA13 hq
      refine x_tableIn (pc := 14) 65 dX5_operation_14 hr4 (by omega) (by omega) (by rw [hq]; rfl) (by decide) ?_
      refine x_aload_n (pc := 65) 0 dX5_operation_65 rfl ?_
      refine x_getP (pc := 66) dX5_operation_66 FC5 4 (by decide) rfl fl_X5_51 (LBS_ob hb) (LBS_p4 hb) ?_
      refine x_iload (pc := 69) 4 dX5_operation_69 rfl ?_
      refine x_Vi (μ := m_X5_operation) (pc := 71) dX5_operation_71 h k_X1_positionOf ml_X5_123 ⟨Nat.le_of_ble_eq_true rfl, Nat.le_of_ble_eq_true rfl⟩ ⟨rfl, rfl⟩ ⟨Nat.zero_le _, Nat.zero_le _⟩ rfl (LPlan_ob (LSch_p (LBS_s hb))) rfl (Nat.le_of_ble_eq_true rfl) _ rfl (fun z11 I12 h => ?_)
      exact x_iret (pc := 74) dX5_operation_74 rfl (Nat.le_refl _) (Nat.le_refl _) ⟨_, rfl, rfl, h⟩
set_option maxRecDepth 100000 in
set_option maxHeartbeats 4000000 in
theorem t_X5_orderLength_0 {Γ : GG} {P : MP} {I : MM} {R : Int → MM → Prop} {x1 : Int} {σ κ n σ2 κ2 n2 : Nat} (hb : LBS Γ P σ κ n σ2 κ2 n2)
    (h : (Cl Γ m_X5_needMachine [vR 30, vI x1] P I (rv P (fun (I1 : MM) => (0 ≤ x1) ∧ (x1 < 6) ∧ R (I1 (σ + 3) (x1).toNat) I1)))) :
    XM Γ m_X5_orderLength 0 0 0 [(0, vR 30), (1, vI x1)] [] P I (ri P R) := by
  refine x_aload_n (pc := 0) 0 dX5_orderLength_0 rfl ?_
  refine x_iload_n (pc := 1) 1 dX5_orderLength_1 rfl ?_
  refine x_Vv (μ := m_X5_orderLength) (pc := 2) dX5_orderLength_2 h k_X5_needMachine ml_X5_129 ⟨Nat.le_of_ble_eq_true rfl, Nat.le_of_ble_eq_true rfl⟩ ⟨rfl, rfl⟩ ⟨Nat.zero_le _, Nat.zero_le _⟩ rfl (LBS_ob hb) rfl (Nat.le_of_ble_eq_true rfl) _ rfl (fun I1 h => ?_)
  refine x_aload_n (pc := 5) 0 dX5_orderLength_5 rfl ?_
  refine x_getP (pc := 6) dX5_orderLength_6 FC5 4 (by decide) rfl fl_X5_51 (LBS_ob hb) (LBS_p4 hb) ?_
  refine x_getP (pc := 9) dX5_orderLength_9 FC1 0 (by decide) rfl fl_X5_95 (LPlan_ob (LSch_p (LBS_s hb))) (LPlan_p0 (LSch_p (LBS_s hb))) ?_
  refine x_getP (pc := 12) dX5_orderLength_12 FC4 5 (by decide) rfl fl_X5_132 (LShop_ob (LPlan_s (LSch_p (LBS_s hb)))) (LShop_p5 (LPlan_s (LSch_p (LBS_s hb)))) ?_
  refine x_iload_n (pc := 15) 1 dX5_orderLength_15 rfl ?_
  obtain ⟨hv2, h⟩ := h
  obtain ⟨hv3, h⟩ := h
  refine x_iald (pc := 16) dX5_orderLength_16 (LShop_a5 (LPlan_s (LSch_p (LBS_s hb)))) hv2 hv3 (by decide) ?_
  exact x_iret (pc := 17) dX5_orderLength_17 rfl (Nat.le_refl _) (Nat.le_refl _) ⟨_, rfl, rfl, h⟩
set_option maxRecDepth 100000 in
set_option maxHeartbeats 4000000 in
theorem t_X5_orderAt_0 {Γ : GG} {P : MP} {I : MM} {R : Int → MM → Prop} {x1 x2 : Int} {σ κ n σ2 κ2 n2 : Nat} (hb : LBS Γ P σ κ n σ2 κ2 n2)
    (h : (Cl Γ m_X5_needMachine [vR 30, vI x1] P I (rv P (fun (I1 : MM) => (inR x2) ∧ ((x2 < 0 → False) ∧ (¬ x2 < 0 → (0 ≤ x1) ∧ (x1 < 6) ∧ (inR (I1 (σ + 3) (x1).toNat)) ∧ ((x2 < (I1 (σ + 3) (x1).toNat) → (0 ≤ ((x1 * 6) + x2)) ∧ (((x1 * 6) + x2) < 36) ∧ (Cl Γ m_X5_codeOf [vI (I1 (48 + 2) (((x1 * 6) + x2)).toNat)] P I1 (ri P (fun (z12 : Int) (I13 : MM) => R z12 I13)))) ∧ (¬ x2 < (I1 (σ + 3) (x1).toNat) → False)))))))) :
    XM Γ m_X5_orderAt 0 0 0 [(0, vR 30), (1, vI x1), (2, vI x2)] [] P I (ri P R) := by
  refine x_aload_n (pc := 0) 0 dX5_orderAt_0 rfl ?_
  refine x_iload_n (pc := 1) 1 dX5_orderAt_1 rfl ?_
  refine x_Vv (μ := m_X5_orderAt) (pc := 2) dX5_orderAt_2 h k_X5_needMachine ml_X5_129 ⟨Nat.le_of_ble_eq_true rfl, Nat.le_of_ble_eq_true rfl⟩ ⟨rfl, rfl⟩ ⟨Nat.zero_le _, Nat.zero_le _⟩ rfl (LBS_ob hb) rfl (Nat.le_of_ble_eq_true rfl) _ rfl (fun I1 h => ?_)
  refine x_iload_n (pc := 5) 2 dX5_orderAt_5 rfl ?_
  obtain ⟨hr2, h⟩ := h
  obtain ⟨hA3, hB4⟩ := h
  refine x_if_lt (pc := 6) 25 dX5_orderAt_6 (by decide) hr2 (fun hc => ?_) (fun hc => ?_)
  · have h := hA3 hc
    exact h.elim
  · have h := hB4 hc
    refine x_iload_n (pc := 9) 2 dX5_orderAt_9 rfl ?_
    refine x_aload_n (pc := 10) 0 dX5_orderAt_10 rfl ?_
    refine x_getP (pc := 11) dX5_orderAt_11 FC5 4 (by decide) rfl fl_X5_51 (LBS_ob hb) (LBS_p4 hb) ?_
    refine x_getP (pc := 14) dX5_orderAt_14 FC1 0 (by decide) rfl fl_X5_95 (LPlan_ob (LSch_p (LBS_s hb))) (LPlan_p0 (LSch_p (LBS_s hb))) ?_
    refine x_getP (pc := 17) dX5_orderAt_17 FC4 5 (by decide) rfl fl_X5_132 (LShop_ob (LPlan_s (LSch_p (LBS_s hb)))) (LShop_p5 (LPlan_s (LSch_p (LBS_s hb)))) ?_
    refine x_iload_n (pc := 20) 1 dX5_orderAt_20 rfl ?_
    obtain ⟨hv5, h⟩ := h
    obtain ⟨hv6, h⟩ := h
    refine x_iald (pc := 21) dX5_orderAt_21 (LShop_a5 (LPlan_s (LSch_p (LBS_s hb)))) hv5 hv6 (by decide) ?_
    obtain ⟨hr7, h⟩ := h
    obtain ⟨hA8, hB9⟩ := h
    refine x_icmp_lt (pc := 22) 35 dX5_orderAt_22 (by decide) hr2 hr7 (fun hc => ?_) (fun hc => ?_)
    · have h := hA8 hc
      refine x_aload_n (pc := 35) 0 dX5_orderAt_35 rfl ?_
      refine x_getP (pc := 36) dX5_orderAt_36 FC5 4 (by decide) rfl fl_X5_51 (LBS_ob hb) (LBS_p4 hb) ?_
      refine x_getP (pc := 39) dX5_orderAt_39 FC1 2 (by decide) rfl fl_X5_140 (LPlan_ob (LSch_p (LBS_s hb))) (LPlan_p2 (LSch_p (LBS_s hb))) ?_
      refine x_iload_n (pc := 42) 1 dX5_orderAt_42 rfl ?_
      refine x_bipush (pc := 43) dX5_orderAt_43 rfl ?_
      refine x_imul (pc := 45) dX5_orderAt_45 ?_
      refine x_iload_n (pc := 46) 2 dX5_orderAt_46 rfl ?_
      refine x_iadd (pc := 47) dX5_orderAt_47 ?_
      obtain ⟨hv10, h⟩ := h
      obtain ⟨hv11, h⟩ := h
      refine x_iald (pc := 48) dX5_orderAt_48 (LPlan_a2 (LSch_p (LBS_s hb))) hv10 hv11 (by decide) ?_
      refine x_Si (μ := m_X5_orderAt) (pc := 49) dX5_orderAt_49 h k_X5_codeOf ml_X5_143 ⟨Nat.le_of_ble_eq_true rfl, Nat.le_of_ble_eq_true rfl⟩ ⟨rfl, rfl⟩ ⟨Nat.zero_le _, Nat.zero_le _⟩ rfl (Nat.le_of_ble_eq_true rfl) _ rfl (fun z12 I13 h => ?_)
      exact x_iret (pc := 52) dX5_orderAt_52 rfl (Nat.le_refl _) (Nat.le_refl _) ⟨_, rfl, rfl, h⟩
    · have h := hB9 hc
      exact h.elim
set_option maxRecDepth 100000 in
set_option maxHeartbeats 4000000 in
theorem t_X5_start_0 {Γ : GG} {P : MP} {I : MM} {R : Int → MM → Prop} {x1 x2 : Int} {σ κ n σ2 κ2 n2 : Nat} (hb : LBS Γ P σ κ n σ2 κ2 n2)
    (h : (Cl Γ m_X5_needOperation [vR 30, vI x1, vI x2] P I (rv P (fun (I1 : MM) => (Cl Γ m_X5_idOf [vI x1, vI x2] P I1 (ri P (fun (z2 : Int) (I3 : MM) => (0 ≤ z2) ∧ (z2 < 36) ∧ R (I3 (40 + 1) (z2).toNat) I3))))))) :
    XM Γ m_X5_start 0 0 0 [(0, vR 30), (1, vI x1), (2, vI x2)] [] P I (ri P R) := by
  refine x_aload_n (pc := 0) 0 dX5_start_0 rfl ?_
  refine x_iload_n (pc := 1) 1 dX5_start_1 rfl ?_
  refine x_iload_n (pc := 2) 2 dX5_start_2 rfl ?_
  refine x_Vv (μ := m_X5_start) (pc := 3) dX5_start_3 h k_X5_needOperation ml_X5_110 ⟨Nat.le_of_ble_eq_true rfl, Nat.le_of_ble_eq_true rfl⟩ ⟨rfl, rfl⟩ ⟨Nat.zero_le _, Nat.zero_le _⟩ rfl (LBS_ob hb) rfl (Nat.le_of_ble_eq_true rfl) _ rfl (fun I1 h => ?_)
  refine x_aload_n (pc := 6) 0 dX5_start_6 rfl ?_
  refine x_getP (pc := 7) dX5_start_7 FC5 3 (by decide) rfl fl_X5_43 (LBS_ob hb) (LBS_p3 hb) ?_
  refine x_getP (pc := 10) dX5_start_10 FC2 1 (by decide) rfl fl_X5_146 (LSch_ob (LBS_s hb)) (LSch_p1 (LBS_s hb)) ?_
  refine x_iload_n (pc := 13) 1 dX5_start_13 rfl ?_
  refine x_iload_n (pc := 14) 2 dX5_start_14 rfl ?_
  refine x_Si (μ := m_X5_start) (pc := 15) dX5_start_15 h k_X5_idOf ml_X5_113 ⟨Nat.le_of_ble_eq_true rfl, Nat.le_of_ble_eq_true rfl⟩ ⟨rfl, rfl⟩ ⟨Nat.zero_le _, Nat.zero_le _⟩ rfl (Nat.le_of_ble_eq_true rfl) _ rfl (fun z2 I3 h => ?_)
  obtain ⟨hv4, h⟩ := h
  obtain ⟨hv5, h⟩ := h
  refine x_iald (pc := 18) dX5_start_18 (LSch_a1 (LBS_s hb)) hv4 hv5 (by decide) ?_
  exact x_iret (pc := 19) dX5_start_19 rfl (Nat.le_refl _) (Nat.le_refl _) ⟨_, rfl, rfl, h⟩
set_option maxRecDepth 100000 in
set_option maxHeartbeats 4000000 in
theorem t_X5_leave_0 {Γ : GG} {P : MP} {I : MM} {R : Int → MM → Prop} {x1 x2 : Int} {σ κ n σ2 κ2 n2 : Nat} (hb : LBS Γ P σ κ n σ2 κ2 n2)
    (h : (Cl Γ m_X5_needOperation [vR 30, vI x1, vI x2] P I (rv P (fun (I1 : MM) => (Cl Γ m_X2_leaveOf [vR 40, vI x1, vI x2] P I1 (ri P (fun (z2 : Int) (I3 : MM) => R z2 I3))))))) :
    XM Γ m_X5_leave 0 0 0 [(0, vR 30), (1, vI x1), (2, vI x2)] [] P I (ri P R) := by
  refine x_aload_n (pc := 0) 0 dX5_leave_0 rfl ?_
  refine x_iload_n (pc := 1) 1 dX5_leave_1 rfl ?_
  refine x_iload_n (pc := 2) 2 dX5_leave_2 rfl ?_
  refine x_Vv (μ := m_X5_leave) (pc := 3) dX5_leave_3 h k_X5_needOperation ml_X5_110 ⟨Nat.le_of_ble_eq_true rfl, Nat.le_of_ble_eq_true rfl⟩ ⟨rfl, rfl⟩ ⟨Nat.zero_le _, Nat.zero_le _⟩ rfl (LBS_ob hb) rfl (Nat.le_of_ble_eq_true rfl) _ rfl (fun I1 h => ?_)
  refine x_aload_n (pc := 6) 0 dX5_leave_6 rfl ?_
  refine x_getP (pc := 7) dX5_leave_7 FC5 3 (by decide) rfl fl_X5_43 (LBS_ob hb) (LBS_p3 hb) ?_
  refine x_iload_n (pc := 10) 1 dX5_leave_10 rfl ?_
  refine x_iload_n (pc := 11) 2 dX5_leave_11 rfl ?_
  refine x_Vi (μ := m_X5_leave) (pc := 12) dX5_leave_12 h k_X2_leaveOf ml_X5_149 ⟨Nat.le_of_ble_eq_true rfl, Nat.le_of_ble_eq_true rfl⟩ ⟨rfl, rfl⟩ ⟨Nat.zero_le _, Nat.zero_le _⟩ rfl (LSch_ob (LBS_s hb)) rfl (Nat.le_of_ble_eq_true rfl) _ rfl (fun z2 I3 h => ?_)
  exact x_iret (pc := 15) dX5_leave_15 rfl (Nat.le_refl _) (Nat.le_refl _) ⟨_, rfl, rfl, h⟩
set_option maxRecDepth 100000 in
set_option maxHeartbeats 4000000 in
theorem t_X5_completion_0 {Γ : GG} {P : MP} {I : MM} {R : Int → MM → Prop} {x1 : Int} {σ κ n σ2 κ2 n2 : Nat} (hb : LBS Γ P σ κ n σ2 κ2 n2)
    (h : (Cl Γ m_X5_needJob [vR 30, vI x1] P I (rv P (fun (I1 : MM) => (Cl Γ m_X2_completionOf [vR 40, vI x1] P I1 (ri P (fun (z2 : Int) (I3 : MM) => R z2 I3))))))) :
    XM Γ m_X5_completion 0 0 0 [(0, vR 30), (1, vI x1)] [] P I (ri P R) := by
  refine x_aload_n (pc := 0) 0 dX5_completion_0 rfl ?_
  refine x_iload_n (pc := 1) 1 dX5_completion_1 rfl ?_
  refine x_Vv (μ := m_X5_completion) (pc := 2) dX5_completion_2 h k_X5_needJob ml_X5_102 ⟨Nat.le_of_ble_eq_true rfl, Nat.le_of_ble_eq_true rfl⟩ ⟨rfl, rfl⟩ ⟨Nat.zero_le _, Nat.zero_le _⟩ rfl (LBS_ob hb) rfl (Nat.le_of_ble_eq_true rfl) _ rfl (fun I1 h => ?_)
  refine x_aload_n (pc := 5) 0 dX5_completion_5 rfl ?_
  refine x_getP (pc := 6) dX5_completion_6 FC5 3 (by decide) rfl fl_X5_43 (LBS_ob hb) (LBS_p3 hb) ?_
  refine x_iload_n (pc := 9) 1 dX5_completion_9 rfl ?_
  refine x_Vi (μ := m_X5_completion) (pc := 10) dX5_completion_10 h k_X2_completionOf ml_X5_152 ⟨Nat.le_of_ble_eq_true rfl, Nat.le_of_ble_eq_true rfl⟩ ⟨rfl, rfl⟩ ⟨Nat.zero_le _, Nat.zero_le _⟩ rfl (LSch_ob (LBS_s hb)) rfl (Nat.le_of_ble_eq_true rfl) _ rfl (fun z2 I3 h => ?_)
  exact x_iret (pc := 13) dX5_completion_13 rfl (Nat.le_refl _) (Nat.le_refl _) ⟨_, rfl, rfl, h⟩
set_option maxRecDepth 100000 in
set_option maxHeartbeats 4000000 in
theorem t_X5_makespan_0 {Γ : GG} {P : MP} {I : MM} {R : Int → MM → Prop} {σ κ n σ2 κ2 n2 : Nat} (hb : LBS Γ P σ κ n σ2 κ2 n2)
    (h : (Cl Γ m_X2_greatestCompletion [vR 40] P I (ri P (fun (z1 : Int) (I2 : MM) => R z1 I2)))) :
    XM Γ m_X5_makespan 0 0 0 [(0, vR 30)] [] P I (ri P R) := by
  refine x_aload_n (pc := 0) 0 dX5_makespan_0 rfl ?_
  refine x_getP (pc := 1) dX5_makespan_1 FC5 3 (by decide) rfl fl_X5_43 (LBS_ob hb) (LBS_p3 hb) ?_
  refine x_Vi (μ := m_X5_makespan) (pc := 4) dX5_makespan_4 h k_X2_greatestCompletion ml_X5_155 ⟨Nat.le_of_ble_eq_true rfl, Nat.le_of_ble_eq_true rfl⟩ ⟨rfl, rfl⟩ ⟨Nat.zero_le _, Nat.zero_le _⟩ rfl (LSch_ob (LBS_s hb)) rfl (Nat.le_of_ble_eq_true rfl) _ rfl (fun z1 I2 h => ?_)
  exact x_iret (pc := 7) dX5_makespan_7 rfl (Nat.le_refl _) (Nat.le_refl _) ⟨_, rfl, rfl, h⟩
set_option maxRecDepth 100000 in
set_option maxHeartbeats 4000000 in
theorem t_X5_jobCost_0 {Γ : GG} {P : MP} {I : MM} {R : Int → MM → Prop} {x1 : Int} {σ κ n σ2 κ2 n2 : Nat} (hb : LBS Γ P σ κ n σ2 κ2 n2)
    (h : (Cl Γ m_X5_needJob [vR 30, vI x1] P I (rv P (fun (I1 : MM) => (Cl Γ m_X2_costOf [vR 40, vI x1] P I1 (ri P (fun (z2 : Int) (I3 : MM) => R z2 I3))))))) :
    XM Γ m_X5_jobCost 0 0 0 [(0, vR 30), (1, vI x1)] [] P I (ri P R) := by
  refine x_aload_n (pc := 0) 0 dX5_jobCost_0 rfl ?_
  refine x_iload_n (pc := 1) 1 dX5_jobCost_1 rfl ?_
  refine x_Vv (μ := m_X5_jobCost) (pc := 2) dX5_jobCost_2 h k_X5_needJob ml_X5_102 ⟨Nat.le_of_ble_eq_true rfl, Nat.le_of_ble_eq_true rfl⟩ ⟨rfl, rfl⟩ ⟨Nat.zero_le _, Nat.zero_le _⟩ rfl (LBS_ob hb) rfl (Nat.le_of_ble_eq_true rfl) _ rfl (fun I1 h => ?_)
  refine x_aload_n (pc := 5) 0 dX5_jobCost_5 rfl ?_
  refine x_getP (pc := 6) dX5_jobCost_6 FC5 3 (by decide) rfl fl_X5_43 (LBS_ob hb) (LBS_p3 hb) ?_
  refine x_iload_n (pc := 9) 1 dX5_jobCost_9 rfl ?_
  refine x_Vi (μ := m_X5_jobCost) (pc := 10) dX5_jobCost_10 h k_X2_costOf ml_X5_159 ⟨Nat.le_of_ble_eq_true rfl, Nat.le_of_ble_eq_true rfl⟩ ⟨rfl, rfl⟩ ⟨Nat.zero_le _, Nat.zero_le _⟩ rfl (LSch_ob (LBS_s hb)) rfl (Nat.le_of_ble_eq_true rfl) _ rfl (fun z2 I3 h => ?_)
  exact x_iret (pc := 13) dX5_jobCost_13 rfl (Nat.le_refl _) (Nat.le_refl _) ⟨_, rfl, rfl, h⟩
set_option maxRecDepth 100000 in
set_option maxHeartbeats 4000000 in
theorem t_X5_planCost_0 {Γ : GG} {P : MP} {I : MM} {R : Int → MM → Prop} {σ κ n σ2 κ2 n2 : Nat} (hb : LBS Γ P σ κ n σ2 κ2 n2)
    (h : (Cl Γ m_X2_costOfAll [vR 40] P I (ri P (fun (z1 : Int) (I2 : MM) => R z1 I2)))) :
    XM Γ m_X5_planCost 0 0 0 [(0, vR 30)] [] P I (ri P R) := by
  refine x_aload_n (pc := 0) 0 dX5_planCost_0 rfl ?_
  refine x_getP (pc := 1) dX5_planCost_1 FC5 3 (by decide) rfl fl_X5_43 (LBS_ob hb) (LBS_p3 hb) ?_
  refine x_Vi (μ := m_X5_planCost) (pc := 4) dX5_planCost_4 h k_X2_costOfAll ml_X5_162 ⟨Nat.le_of_ble_eq_true rfl, Nat.le_of_ble_eq_true rfl⟩ ⟨rfl, rfl⟩ ⟨Nat.zero_le _, Nat.zero_le _⟩ rfl (LSch_ob (LBS_s hb)) rfl (Nat.le_of_ble_eq_true rfl) _ rfl (fun z1 I2 h => ?_)
  exact x_iret (pc := 7) dX5_planCost_7 rfl (Nat.le_refl _) (Nat.le_refl _) ⟨_, rfl, rfl, h⟩
set_option maxRecDepth 100000 in
set_option maxHeartbeats 4000000 in
theorem t_X5_blockedTime_0 {Γ : GG} {P : MP} {I : MM} {R : Int → MM → Prop} {x1 : Int} {σ κ n σ2 κ2 n2 : Nat} (hb : LBS Γ P σ κ n σ2 κ2 n2)
    (h : (Cl Γ m_X5_needMachine [vR 30, vI x1] P I (rv P (fun (I1 : MM) => XM Γ m_X5_blockedTime 0 0 9 [(0, vR 30), (1, vI x1), (2, vI 0), (3, vI 0)] [] P I1 (ri P R))))) :
    XM Γ m_X5_blockedTime 0 0 0 [(0, vR 30), (1, vI x1)] [] P I (ri P R) := by
  refine x_aload_n (pc := 0) 0 dX5_blockedTime_0 rfl ?_
  refine x_iload_n (pc := 1) 1 dX5_blockedTime_1 rfl ?_
  refine x_Vv (μ := m_X5_blockedTime) (pc := 2) dX5_blockedTime_2 h k_X5_needMachine ml_X5_129 ⟨Nat.le_of_ble_eq_true rfl, Nat.le_of_ble_eq_true rfl⟩ ⟨rfl, rfl⟩ ⟨Nat.zero_le _, Nat.zero_le _⟩ rfl (LBS_ob hb) rfl (Nat.le_of_ble_eq_true rfl) _ rfl (fun I1 h => ?_)
  refine x_iconst (pc := 5) dX5_blockedTime_5 ?_
  refine x_istore_n (pc := 6) (al' := [(0, vR 30), (1, vI x1), (2, vI 0)]) dX5_blockedTime_6 rfl rfl (Nat.le_of_ble_eq_true rfl) ?_
  refine x_iconst (pc := 7) dX5_blockedTime_7 ?_
  refine x_istore_n (pc := 8) (al' := [(0, vR 30), (1, vI x1), (2, vI 0), (3, vI 0)]) dX5_blockedTime_8 rfl rfl (Nat.le_of_ble_eq_true rfl) ?_
  exact x_sub [0, 1, 2, 3] rfl h
set_option maxRecDepth 100000 in
set_option maxHeartbeats 4000000 in
theorem t_X5_blockedTime_9 {Γ : GG} {P : MP} {I : MM} {R : Int → MM → Prop} {x1 x2 x3 : Int} {σ κ n σ2 κ2 n2 : Nat} (hb : LBS Γ P σ κ n σ2 κ2 n2)
    (h : (0 ≤ x1) ∧ (x1 < 6) ∧ (inR x3) ∧ (inR (I (σ + 3) (x1).toNat)) ∧ (((I (σ + 3) (x1).toNat) ≤ x3 → R x2 I) ∧ (¬ (I (σ + 3) (x1).toNat) ≤ x3 → (0 ≤ ((x1 * 6) + x3)) ∧ (((x1 * 6) + x3) < 36) ∧ (∀ u9 : Int, u9 = (I (48 + 2) (((x1 * 6) + x3)).toNat) → (inR u9) ∧ (0 ≤ u9) ∧ (Cl Γ m_X2_leaveOf [vR 40, vI (u9 / 6), vI (u9 % 6)] P I (ri P (fun (z12 : Int) (I13 : MM) => (Cl Γ m_X2_completedAt [vR 40, vI u9] P I13 (ri P (fun (z14 : Int) (I15 : MM) => (∀ u16 : Int, u16 = (x2 + (z12 - z14)) → XM Γ m_X5_blockedTime 0 0 9 [(0, vR 30), (1, vI x1), (2, vI u16), (3, vI (x3 + 1))] [] P I15 (ri P R)))))))))))) :
    XM Γ m_X5_blockedTime 0 0 9 [(0, vR 30), (1, vI x1), (2, vI x2), (3, vI x3)] [] P I (ri P R) := by
  refine x_iload_n (pc := 9) 3 dX5_blockedTime_9 rfl ?_
  refine x_aload_n (pc := 10) 0 dX5_blockedTime_10 rfl ?_
  refine x_getP (pc := 11) dX5_blockedTime_11 FC5 4 (by decide) rfl fl_X5_51 (LBS_ob hb) (LBS_p4 hb) ?_
  refine x_getP (pc := 14) dX5_blockedTime_14 FC1 0 (by decide) rfl fl_X5_95 (LPlan_ob (LSch_p (LBS_s hb))) (LPlan_p0 (LSch_p (LBS_s hb))) ?_
  refine x_getP (pc := 17) dX5_blockedTime_17 FC4 5 (by decide) rfl fl_X5_132 (LShop_ob (LPlan_s (LSch_p (LBS_s hb)))) (LShop_p5 (LPlan_s (LSch_p (LBS_s hb)))) ?_
  refine x_iload_n (pc := 20) 1 dX5_blockedTime_20 rfl ?_
  obtain ⟨hv1, h⟩ := h
  obtain ⟨hv2, h⟩ := h
  refine x_iald (pc := 21) dX5_blockedTime_21 (LShop_a5 (LPlan_s (LSch_p (LBS_s hb)))) hv1 hv2 (by decide) ?_
  obtain ⟨hr3, h⟩ := h
  obtain ⟨hr4, h⟩ := h
  obtain ⟨hA5, hB6⟩ := h
  refine x_icmp_ge (pc := 22) 77 dX5_blockedTime_22 (by decide) hr3 hr4 (fun hc => ?_) (fun hc => ?_)
  · have h := hA5 hc
    refine x_iload_n (pc := 77) 2 dX5_blockedTime_77 rfl ?_
    exact x_iret (pc := 78) dX5_blockedTime_78 rfl (Nat.le_refl _) (Nat.le_refl _) ⟨_, rfl, rfl, h⟩
  · have h := hB6 hc
    refine x_aload_n (pc := 25) 0 dX5_blockedTime_25 rfl ?_
    refine x_getP (pc := 26) dX5_blockedTime_26 FC5 4 (by decide) rfl fl_X5_51 (LBS_ob hb) (LBS_p4 hb) ?_
    refine x_getP (pc := 29) dX5_blockedTime_29 FC1 2 (by decide) rfl fl_X5_140 (LPlan_ob (LSch_p (LBS_s hb))) (LPlan_p2 (LSch_p (LBS_s hb))) ?_
    refine x_iload_n (pc := 32) 1 dX5_blockedTime_32 rfl ?_
    refine x_bipush (pc := 33) dX5_blockedTime_33 rfl ?_
    refine x_imul (pc := 35) dX5_blockedTime_35 ?_
    refine x_iload_n (pc := 36) 3 dX5_blockedTime_36 rfl ?_
    refine x_iadd (pc := 37) dX5_blockedTime_37 ?_
    obtain ⟨hv7, h⟩ := h
    obtain ⟨hv8, h⟩ := h
    refine x_iald (pc := 38) dX5_blockedTime_38 (LPlan_a2 (LSch_p (LBS_s hb))) hv7 hv8 (by decide) ?_
    refine x_nmT (fun u9 eu9 => ?_)
    have h := h u9 eu9
    refine x_istore (pc := 39) (al' := [(0, vR 30), (1, vI x1), (2, vI x2), (3, vI x3), (4, vI u9)]) dX5_blockedTime_39 rfl rfl (Nat.le_of_ble_eq_true rfl) ?_
    refine x_iload_n (pc := 41) 2 dX5_blockedTime_41 rfl ?_
    refine x_aload_n (pc := 42) 0 dX5_blockedTime_42 rfl ?_
    refine x_getP (pc := 43) dX5_blockedTime_43 FC5 3 (by decide) rfl fl_X5_43 (LBS_ob hb) (LBS_p3 hb) ?_
    refine x_iload (pc := 46) 4 dX5_blockedTime_46 rfl ?_
    refine x_bipush (pc := 48) dX5_blockedTime_48 rfl ?_
    obtain ⟨hr10, h⟩ := h
    obtain ⟨hv11, h⟩ := h
    refine x_idiv (pc := 50) dX5_blockedTime_50 hr10 ⟨by decide, by decide⟩ hv11 (by decide) ?_
    refine x_iload (pc := 51) 4 dX5_blockedTime_51 rfl ?_
    refine x_bipush (pc := 53) dX5_blockedTime_53 rfl ?_
    refine x_irem (pc := 55) dX5_blockedTime_55 hr10 ⟨by decide, by decide⟩ hv11 (by decide) ?_
    refine x_Vi (μ := m_X5_blockedTime) (pc := 56) dX5_blockedTime_56 h k_X2_leaveOf ml_X5_149 ⟨Nat.le_of_ble_eq_true rfl, Nat.le_of_ble_eq_true rfl⟩ ⟨rfl, rfl⟩ ⟨Nat.zero_le _, Nat.zero_le _⟩ rfl (LSch_ob (LBS_s hb)) rfl (Nat.le_of_ble_eq_true rfl) _ rfl (fun z12 I13 h => ?_)
    refine x_aload_n (pc := 59) 0 dX5_blockedTime_59 rfl ?_
    refine x_getP (pc := 60) dX5_blockedTime_60 FC5 3 (by decide) rfl fl_X5_43 (LBS_ob hb) (LBS_p3 hb) ?_
    refine x_iload (pc := 63) 4 dX5_blockedTime_63 rfl ?_
    refine x_Vi (μ := m_X5_blockedTime) (pc := 65) dX5_blockedTime_65 h k_X2_completedAt ml_X5_165 ⟨Nat.le_of_ble_eq_true rfl, Nat.le_of_ble_eq_true rfl⟩ ⟨rfl, rfl⟩ ⟨Nat.zero_le _, Nat.zero_le _⟩ rfl (LSch_ob (LBS_s hb)) rfl (Nat.le_of_ble_eq_true rfl) _ rfl (fun z14 I15 h => ?_)
    refine x_isub (pc := 68) dX5_blockedTime_68 ?_
    refine x_iadd (pc := 69) dX5_blockedTime_69 ?_
    refine x_nmT (fun u16 eu16 => ?_)
    have h := h u16 eu16
    refine x_istore_n (pc := 70) (al' := [(0, vR 30), (1, vI x1), (2, vI u16), (3, vI x3), (4, vI u9)]) dX5_blockedTime_70 rfl rfl (Nat.le_of_ble_eq_true rfl) ?_
    refine x_iinc (pc := 71) (al' := [(0, vR 30), (1, vI x1), (2, vI u16), (3, vI (x3 + 1)), (4, vI u9)]) 3 dX5_blockedTime_71 rfl rfl rfl (Nat.le_of_ble_eq_true rfl) ?_
    refine x_goto (pc := 74) 9 dX5_blockedTime_74 (by decide) ?_
    exact x_sub [0, 1, 2, 3] rfl h
set_option maxRecDepth 100000 in
set_option maxHeartbeats 4000000 in
theorem t_X5_criticalLength_0 {Γ : GG} {P : MP} {I : MM} {R : Int → MM → Prop} {σ κ n σ2 κ2 n2 : Nat} (hb : LBS Γ P σ κ n σ2 κ2 n2)
    (h : (Cl Γ m_X2_traceCriticalPath [vR 40] P I (rv P (fun (I1 : MM) => R (I1 40 6) I1)))) :
    XM Γ m_X5_criticalLength 0 0 0 [(0, vR 30)] [] P I (ri P R) := by
  refine x_aload_n (pc := 0) 0 dX5_criticalLength_0 rfl ?_
  refine x_getP (pc := 1) dX5_criticalLength_1 FC5 3 (by decide) rfl fl_X5_43 (LBS_ob hb) (LBS_p3 hb) ?_
  refine x_Vv (μ := m_X5_criticalLength) (pc := 4) dX5_criticalLength_4 h k_X2_traceCriticalPath ml_X5_168 ⟨Nat.le_of_ble_eq_true rfl, Nat.le_of_ble_eq_true rfl⟩ ⟨rfl, rfl⟩ ⟨Nat.zero_le _, Nat.zero_le _⟩ rfl (LSch_ob (LBS_s hb)) rfl (Nat.le_of_ble_eq_true rfl) _ rfl (fun I1 h => ?_)
  refine x_aload_n (pc := 7) 0 dX5_criticalLength_7 rfl ?_
  refine x_getP (pc := 8) dX5_criticalLength_8 FC5 3 (by decide) rfl fl_X5_43 (LBS_ob hb) (LBS_p3 hb) ?_
  refine x_getI (pc := 11) dX5_criticalLength_11 FC2 6 (by decide) rfl fl_X5_171 (LSch_ob (LBS_s hb)) ?_
  exact x_iret (pc := 14) dX5_criticalLength_14 rfl (Nat.le_refl _) (Nat.le_refl _) ⟨_, rfl, rfl, h⟩
