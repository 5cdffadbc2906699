set_option maxRecDepth 100000 in
set_option maxHeartbeats 4000000 in
theorem t_X3_addToCost_0 {Γ : GG} {P : MP} {I : MM} {R : MM → Prop} {x1 : Int} (hr : LRead Γ P)
    (h : (inR (I 31 9)) ∧ ((900 ≤ (I 31 9) → R I) ∧ (¬ 900 ≤ (I 31 9) → (0 ≤ (I 31 9)) ∧ ((I 31 9) < 900) ∧ (∀ I6 : MM, I6 = up2 I 33 ((I 31 9)).toNat x1 → (∀ I7 : MM, I7 = up2 I6 31 9 ((I6 31 9) + 1) → R I7))))) :
    XM Γ m_X3_addToCost 0 0 0 [(0, vR 31), (1, vI x1)] [] P I (rv P R) := by
  refine x_aload_n (pc := 0) 0 dX3_addToCost_0 rfl ?_
  refine x_getI (pc := 1) dX3_addToCost_1 FC3 9 (by decide) rfl fl_X3_42 (LRead_ob hr) ?_
  refine x_sipush (pc := 4) dX3_addToCost_4 rfl ?_
  obtain ⟨hr1, h⟩ := h
  obtain ⟨hA2, hB3⟩ := h
  refine x_icmp_ge (pc := 7) 30 dX3_addToCost_7 (by decide) hr1 ⟨by decide, by decide⟩ (fun hc => ?_) (fun hc => ?_)
  · have h := hA2 hc
    exact x_vret (pc := 30) dX3_addToCost_30 rfl (Nat.le_refl _) (Nat.le_refl _) ⟨rfl, rfl, h⟩
  · have h := hB3 hc
    refine x_aload_n (pc := 10) 0 dX3_addToCost_10 rfl ?_
    refine x_getP (pc := 11) dX3_addToCost_11 FC3 8 (by decide) rfl fl_X3_38 (LRead_ob hr) (LRead_p8 hr) ?_
    refine x_aload_n (pc := 14) 0 dX3_addToCost_14 rfl ?_
    refine x_getI (pc := 15) dX3_addToCost_15 FC3 9 (by decide) rfl fl_X3_42 (LRead_ob hr) ?_
    refine x_iload_n (pc := 18) 1 dX3_addToCost_18 rfl ?_
    obtain ⟨hv4, h⟩ := h
    obtain ⟨hv5, h⟩ := h
    refine x_iast (pc := 19) dX3_addToCost_19 (LRead_a8 hr) hv4 hv5 (by decide) ?_
    refine x_nmI (fun I6 eI6 => ?_)
    have h := h I6 eI6
    refine x_aload_n (pc := 20) 0 dX3_addToCost_20 rfl ?_
    refine x_dup (pc := 21) dX3_addToCost_21 rfl ?_
    refine x_getI (pc := 22) dX3_addToCost_22 FC3 9 (by decide) rfl fl_X3_42 (LRead_ob hr) ?_
    refine x_iconst (pc := 25) dX3_addToCost_25 ?_
    refine x_iadd (pc := 26) dX3_addToCost_26 ?_
    refine x_putI (pc := 27) dX3_addToCost_27 FC3 9 (by decide) rfl rfl fl_X3_42 (LRead_ob hr) ?_
    refine x_nmI (fun I7 eI7 => ?_)
    have h := h I7 eI7
    exact x_vret (pc := 30) dX3_addToCost_30 rfl (Nat.le_refl _) (Nat.le_refl _) ⟨rfl, rfl, h⟩
set_option maxRecDepth 100000 in
set_option maxHeartbeats 4000000 in
theorem t_X3_valueOfToken_0 {Γ : GG} {P : MP} {I : MM} {R : Int → MM → Prop} (hr : LRead Γ P)
    (h : (∀ u1 : Int, u1 = (I 31 2) → XM Γ m_X3_valueOfToken 0 0 7 [(0, vR 31), (1, vI 0), (2, vI u1)] [] P I (ri P R))) :
    XM Γ m_X3_valueOfToken 0 0 0 [(0, vR 31)] [] P I (ri P R) := by
  refine x_iconst (pc := 0) dX3_valueOfToken_0 ?_
  refine x_istore_n (pc := 1) (al' := [(0, vR 31), (1, vI 0)]) dX3_valueOfToken_1 rfl rfl (Nat.le_of_ble_eq_true rfl) ?_
  refine x_aload_n (pc := 2) 0 dX3_valueOfToken_2 rfl ?_
  refine x_getI (pc := 3) dX3_valueOfToken_3 FC3 2 (by decide) rfl fl_X3_19 (LRead_ob hr) ?_
  refine x_nmT (fun u1 eu1 => ?_)
  have h := h u1 eu1
  refine x_istore_n (pc := 6) (al' := [(0, vR 31), (1, vI 0), (2, vI u1)]) dX3_valueOfToken_6 rfl rfl (Nat.le_of_ble_eq_true rfl) ?_
  exact x_sub [0, 1, 2] rfl h
set_option maxRecDepth 100000 in
set_option maxHeartbeats 4000000 in
theorem t_X3_valueOfToken_7 {Γ : GG} {P : MP} {I : MM} {R : Int → MM → Prop} {x1 x2 : Int} (hr : LRead Γ P)
    (h : (inR x2) ∧ (inR (I 31 3)) ∧ (((I 31 3) ≤ x2 → R x1 I) ∧ (¬ (I 31 3) ≤ x2 → (inR x1) ∧ ((100000 ≤ x1 → R x1 I) ∧ (¬ 100000 ≤ x1 → (0 ≤ x2) ∧ (x2 < 900) ∧ (∀ u10 : Int, u10 = (((10 * x1) + (I 32 (x2).toNat)) - 48) → XM Γ m_X3_valueOfToken 0 0 7 [(0, vR 31), (1, vI u10), (2, vI (x2 + 1))] [] P I (ri P R))))))) :
    XM Γ m_X3_valueOfToken 0 0 7 [(0, vR 31), (1, vI x1), (2, vI x2)] [] P I (ri P R) := by
  refine x_iload_n (pc := 7) 2 dX3_valueOfToken_7 rfl ?_
  refine x_aload_n (pc := 8) 0 dX3_valueOfToken_8 rfl ?_
  refine x_getI (pc := 9) dX3_valueOfToken_9 FC3 3 (by decide) rfl fl_X3_22 (LRead_ob hr) ?_
  obtain ⟨hr1, h⟩ := h
  obtain ⟨hr2, h⟩ := h
  obtain ⟨hA3, hB4⟩ := h
  refine x_icmp_ge (pc := 12) 42 dX3_valueOfToken_12 (by decide) hr1 hr2 (fun hc => ?_) (fun hc => ?_)
  · have h := hA3 hc
    refine x_iload_n (pc := 42) 1 dX3_valueOfToken_42 rfl ?_
    exact x_iret (pc := 43) dX3_valueOfToken_43 rfl (Nat.le_refl _) (Nat.le_refl _) ⟨_, rfl, rfl, h⟩
  · have h := hB4 hc
    refine x_iload_n (pc := 15) 1 dX3_valueOfToken_15 rfl ?_
    refine x_ldc (pc := 16) (100000) dX3_valueOfToken_16 kc_X3_178 ?_
    obtain ⟨hr5, h⟩ := h
    obtain ⟨hA6, hB7⟩ := h
    refine x_icmp_ge (pc := 18) 42 dX3_valueOfToken_18 (by decide) hr5 ⟨by decide, by decide⟩ (fun hc => ?_) (fun hc => ?_)
    · have h := hA6 hc
      refine x_iload_n (pc := 42) 1 dX3_valueOfToken_42 rfl ?_
      exact x_iret (pc := 43) dX3_valueOfToken_43 rfl (Nat.le_refl _) (Nat.le_refl _) ⟨_, rfl, rfl, h⟩
    · have h := hB7 hc
      refine x_bipush (pc := 21) dX3_valueOfToken_21 rfl ?_
      refine x_iload_n (pc := 23) 1 dX3_valueOfToken_23 rfl ?_
      refine x_imul (pc := 24) dX3_valueOfToken_24 ?_
      refine x_aload_n (pc := 25) 0 dX3_valueOfToken_25 rfl ?_
      refine x_getP (pc := 26) dX3_valueOfToken_26 FC3 0 (by decide) rfl fl_X3_9 (LRead_ob hr) (LRead_p0 hr) ?_
      refine x_iload_n (pc := 29) 2 dX3_valueOfToken_29 rfl ?_
      obtain ⟨hv8, h⟩ := h
      obtain ⟨hv9, h⟩ := h
      refine x_bald (pc := 30) dX3_valueOfToken_30 (LRead_a0 hr) hv8 hv9 (by decide) ?_
      refine x_iadd (pc := 31) dX3_valueOfToken_31 ?_
      refine x_bipush (pc := 32) dX3_valueOfToken_32 rfl ?_
      refine x_isub (pc := 34) dX3_valueOfToken_34 ?_
      refine x_nmT (fun u10 eu10 => ?_)
      have h := h u10 eu10
      refine x_istore_n (pc := 35) (al' := [(0, vR 31), (1, vI u10), (2, vI x2)]) dX3_valueOfToken_35 rfl rfl (Nat.le_of_ble_eq_true rfl) ?_
      refine x_iinc (pc := 36) (al' := [(0, vR 31), (1, vI u10), (2, vI (x2 + 1))]) 2 dX3_valueOfToken_36 rfl rfl rfl (Nat.le_of_ble_eq_true rfl) ?_
      refine x_goto (pc := 39) 7 dX3_valueOfToken_39 (by decide) ?_
      exact x_sub [0, 1, 2] rfl h
set_option maxRecDepth 100000 in
set_option maxHeartbeats 4000000 in
theorem t_X3_readNumber_0 {Γ : GG} {P : MP} {I : MM} {R : Int → MM → Prop} {x1 x2 : Int} (hr : LRead Γ P)
    (h : (inR (I 31 4)) ∧ (((I 31 4) = (-1001) → (Cl Γ m_X3_valueOfToken [vR 31] P I (ri P (fun (z4 : Int) (I5 : MM) => (inR z4) ∧ (inR x1) ∧ ((z4 < x1 → (Cl Γ m_X3_fail [vR 31, vI (-3)] P I5 (rv P (fun (I10 : MM) => R x1 I10)))) ∧ (¬ z4 < x1 → (inR x2) ∧ ((z4 ≤ x2 → (Cl Γ m_X3_next [vR 31] P I5 (rv P (fun (I14 : MM) => R z4 I14)))) ∧ (¬ z4 ≤ x2 → (Cl Γ m_X3_fail [vR 31, vI (-3)] P I5 (rv P (fun (I15 : MM) => R x1 I15))))))))))) ∧ (¬ (I 31 4) = (-1001) → (Cl Γ m_X3_fail [vR 31, vI (-2)] P I (rv P (fun (I16 : MM) => R x1 I16)))))) :
    XM Γ m_X3_readNumber 0 0 0 [(0, vR 31), (1, vI x1), (2, vI x2)] [] P I (ri P R) := by
  refine x_aload_n (pc := 0) 0 dX3_readNumber_0 rfl ?_
  refine x_getI (pc := 1) dX3_readNumber_1 FC3 4 (by decide) rfl fl_X3_25 (LRead_ob hr) ?_
  refine x_sipush (pc := 4) dX3_readNumber_4 rfl ?_
  obtain ⟨hr1, h⟩ := h
  obtain ⟨hA2, hB3⟩ := h
  refine x_icmp_eq (pc := 7) 18 dX3_readNumber_7 (by decide) hr1 ⟨by decide, by decide⟩ (fun hc => ?_) (fun hc => ?_)
  · have h := hA2 hc
    refine x_aload_n (pc := 18) 0 dX3_readNumber_18 rfl ?_
    refine x_Vi (μ := m_X3_readNumber) (pc := 19) dX3_readNumber_19 h k_X3_valueOfToken ml_X3_132 ⟨Nat.le_of_ble_eq_true rfl, Nat.le_of_ble_eq_true rfl⟩ ⟨rfl, rfl⟩ ⟨Nat.zero_le _, Nat.zero_le _⟩ rfl (LRead_ob hr) rfl (Nat.le_of_ble_eq_true rfl) _ rfl (fun z4 I5 h => ?_)
    refine x_istore_n (pc := 22) (al' := [(0, vR 31), (1, vI x1), (2, vI x2), (3, vI z4)]) dX3_readNumber_22 rfl rfl (Nat.le_of_ble_eq_true rfl) ?_
    refine x_iload_n (pc := 23) 3 dX3_readNumber_23 rfl ?_
    refine x_iload_n (pc := 24) 1 dX3_readNumber_24 rfl ?_
    obtain ⟨hr6, h⟩ := h
    obtain ⟨hr7, h⟩ := h
    obtain ⟨hA8, hB9⟩ := h
    refine x_icmp_lt (pc := 25) 33 dX3_readNumber_25 (by decide) hr6 hr7 (fun hc => ?_) (fun hc => ?_)
    · have h := hA8 hc
      refine x_aload_n (pc := 33) 0 dX3_readNumber_33 rfl ?_
      refine x_bipush (pc := 34) dX3_readNumber_34 rfl ?_
      refine x_Vv (μ := m_X3_readNumber) (pc := 36) dX3_readNumber_36 h k_X3_fail ml_X3_89 ⟨Nat.le_of_ble_eq_true rfl, Nat.le_of_ble_eq_true rfl⟩ ⟨rfl, rfl⟩ ⟨Nat.zero_le _, Nat.zero_le _⟩ rfl (LRead_ob hr) rfl (Nat.le_of_ble_eq_true rfl) _ rfl (fun I10 h => ?_)
      refine x_iload_n (pc := 39) 1 dX3_readNumber_39 rfl ?_
      exact x_iret (pc := 40) dX3_readNumber_40 rfl (Nat.le_refl _) (Nat.le_refl _) ⟨_, rfl, rfl, h⟩
    · have h := hB9 hc
      refine x_iload_n (pc := 28) 3 dX3_readNumber_28 rfl ?_
      refine x_iload_n (pc := 29) 2 dX3_readNumber_29 rfl ?_
      obtain ⟨hr11, h⟩ := h
      obtain ⟨hA12, hB13⟩ := h
      refine x_icmp_le (pc := 30) 41 dX3_readNumber_30 (by decide) hr6 hr11 (fun hc => ?_) (fun hc => ?_)
      · have h := hA12 hc
        refine x_aload_n (pc := 41) 0 dX3_readNumber_41 rfl ?_
        refine x_Vv (μ := m_X3_readNumber) (pc := 42) dX3_readNumber_42 h k_X3_next ml_X3_54 ⟨Nat.le_of_ble_eq_true rfl, Nat.le_of_ble_eq_true rfl⟩ ⟨rfl, rfl⟩ ⟨Nat.zero_le _, Nat.zero_le _⟩ rfl (LRead_ob hr) rfl (Nat.le_of_ble_eq_true rfl) _ rfl (fun I14 h => ?_)
        refine x_iload_n (pc := 45) 3 dX3_readNumber_45 rfl ?_
        exact x_iret (pc := 46) dX3_readNumber_46 rfl (Nat.le_refl _) (Nat.le_refl _) ⟨_, rfl, rfl, h⟩
      · have h := hB13 hc
        refine x_aload_n (pc := 33) 0 dX3_readNumber_33 rfl ?_
        refine x_bipush (pc := 34) dX3_readNumber_34 rfl ?_
        refine x_Vv (μ := m_X3_readNumber) (pc := 36) dX3_readNumber_36 h k_X3_fail ml_X3_89 ⟨Nat.le_of_ble_eq_true rfl, Nat.le_of_ble_eq_true rfl⟩ ⟨rfl, rfl⟩ ⟨Nat.zero_le _, Nat.zero_le _⟩ rfl (LRead_ob hr) rfl (Nat.le_of_ble_eq_true rfl) _ rfl (fun I15 h => ?_)
        refine x_iload_n (pc := 39) 1 dX3_readNumber_39 rfl ?_
        exact x_iret (pc := 40) dX3_readNumber_40 rfl (Nat.le_refl _) (Nat.le_refl _) ⟨_, rfl, rfl, h⟩
  · have h := hB3 hc
    refine x_aload_n (pc := 10) 0 dX3_readNumber_10 rfl ?_
    refine x_bipush (pc := 11) dX3_readNumber_11 rfl ?_
    refine x_Vv (μ := m_X3_readNumber) (pc := 13) dX3_readNumber_13 h k_X3_fail ml_X3_89 ⟨Nat.le_of_ble_eq_true rfl, Nat.le_of_ble_eq_true rfl⟩ ⟨rfl, rfl⟩ ⟨Nat.zero_le _, Nat.zero_le _⟩ rfl (LRead_ob hr) rfl (Nat.le_of_ble_eq_true rfl) _ rfl (fun I16 h => ?_)
    refine x_iload_n (pc := 16) 1 dX3_readNumber_16 rfl ?_
    exact x_iret (pc := 17) dX3_readNumber_17 rfl (Nat.le_refl _) (Nat.le_refl _) ⟨_, rfl, rfl, h⟩
set_option maxRecDepth 100000 in
set_option maxHeartbeats 4000000 in
theorem t_X3_expectWord_0 {Γ : GG} {P : MP} {I : MM} {R : MM → Prop} (hr : LRead Γ P) {i : Nat} (hi : i < 9)
    (h : (Cl Γ m_X3_isWord [vR 31, vR (500 + i)] P I (ri P (fun (z1 : Int) (I2 : MM) => (inR z1) ∧ ((z1 = 0 → (Cl Γ m_X3_fail [vR 31, vI (-2)] P I2 (rv P (fun (I6 : MM) => R I6)))) ∧ (¬ z1 = 0 → (Cl Γ m_X3_next [vR 31] P I2 (rv P (fun (I7 : MM) => R I7))))))))) :
    XM Γ m_X3_expectWord 0 0 0 [(0, vR 31), (1, vR (500 + i))] [] P I (rv P R) := by
  refine x_aload_n (pc := 0) 0 dX3_expectWord_0 rfl ?_
  refine x_aload_n (pc := 1) 1 dX3_expectWord_1 rfl ?_
  refine x_Vi (μ := m_X3_expectWord) (pc := 2) dX3_expectWord_2 h k_X3_isWord ml_X3_63 ⟨Nat.le_of_ble_eq_true rfl, Nat.le_of_ble_eq_true rfl⟩ ⟨rfl, rfl⟩ ⟨Nat.zero_le _, Nat.zero_le _⟩ rfl (LRead_ob hr) rfl (Nat.le_of_ble_eq_true rfl) _ rfl (fun z1 I2 h => ?_)
  obtain ⟨hr3, h⟩ := h
  obtain ⟨hA4, hB5⟩ := h
  refine x_if_eq (pc := 5) 15 dX3_expectWord_5 (by decide) hr3 (fun hc => ?_) (fun hc => ?_)
  · have h := hA4 hc
    refine x_aload_n (pc := 15) 0 dX3_expectWord_15 rfl ?_
    refine x_bipush (pc := 16) dX3_expectWord_16 rfl ?_
    refine x_Vv (μ := m_X3_expectWord) (pc := 18) dX3_expectWord_18 h k_X3_fail ml_X3_89 ⟨Nat.le_of_ble_eq_true rfl, Nat.le_of_ble_eq_true rfl⟩ ⟨rfl, rfl⟩ ⟨Nat.zero_le _, Nat.zero_le _⟩ rfl (LRead_ob hr) rfl (Nat.le_of_ble_eq_true rfl) _ rfl (fun I6 h => ?_)
    exact x_vret (pc := 21) dX3_expectWord_21 rfl (Nat.le_refl _) (Nat.le_refl _) ⟨rfl, rfl, h⟩
  · have h := hB5 hc
    refine x_aload_n (pc := 8) 0 dX3_expectWord_8 rfl ?_
    refine x_Vv (μ := m_X3_expectWord) (pc := 9) dX3_expectWord_9 h k_X3_next ml_X3_54 ⟨Nat.le_of_ble_eq_true rfl, Nat.le_of_ble_eq_true rfl⟩ ⟨rfl, rfl⟩ ⟨Nat.zero_le _, Nat.zero_le _⟩ rfl (LRead_ob hr) rfl (Nat.le_of_ble_eq_true rfl) _ rfl (fun I7 h => ?_)
    refine x_goto (pc := 12) 21 dX3_expectWord_12 (by decide) ?_
    exact x_vret (pc := 21) dX3_expectWord_21 rfl (Nat.le_refl _) (Nat.le_refl _) ⟨rfl, rfl, h⟩
set_option maxRecDepth 100000 in
set_option maxHeartbeats 4000000 in
theorem t_X3_expect_0 {Γ : GG} {P : MP} {I : MM} {R : MM → Prop} {x1 : Int} (hr : LRead Γ P)
    (h : (inR (I 31 4)) ∧ (inR x1) ∧ (((I 31 4) ≠ x1 → (Cl Γ m_X3_fail [vR 31, vI (-2)] P I (rv P (fun (I5 : MM) => R I5)))) ∧ ((I 31 4) = x1 → (Cl Γ m_X3_next [vR 31] P I (rv P (fun (I6 : MM) => R I6)))))) :
    XM Γ m_X3_expect 0 0 0 [(0, vR 31), (1, vI x1)] [] P I (rv P R) := by
  refine x_aload_n (pc := 0) 0 dX3_expect_0 rfl ?_
  refine x_getI (pc := 1) dX3_expect_1 FC3 4 (by decide) rfl fl_X3_25 (LRead_ob hr) ?_
  refine x_iload_n (pc := 4) 1 dX3_expect_4 rfl ?_
  obtain ⟨hr1, h⟩ := h
  obtain ⟨hr2, h⟩ := h
  obtain ⟨hA3, hB4⟩ := h
  refine x_icmp_ne (pc := 5) 15 dX3_expect_5 (by decide) hr1 hr2 (fun hc => ?_) (fun hc => ?_)
  · have h := hA3 hc
    refine x_aload_n (pc := 15) 0 dX3_expect_15 rfl ?_
    refine x_bipush (pc := 16) dX3_expect_16 rfl ?_
    refine x_Vv (μ := m_X3_expect) (pc := 18) dX3_expect_18 h k_X3_fail ml_X3_89 ⟨Nat.le_of_ble_eq_true rfl, Nat.le_of_ble_eq_true rfl⟩ ⟨rfl, rfl⟩ ⟨Nat.zero_le _, Nat.zero_le _⟩ rfl (LRead_ob hr) rfl (Nat.le_of_ble_eq_true rfl) _ rfl (fun I5 h => ?_)
    exact x_vret (pc := 21) dX3_expect_21 rfl (Nat.le_refl _) (Nat.le_refl _) ⟨rfl, rfl, h⟩
  · have h := hB4 hc
    refine x_aload_n (pc := 8) 0 dX3_expect_8 rfl ?_
    refine x_Vv (μ := m_X3_expect) (pc := 9) dX3_expect_9 h k_X3_next ml_X3_54 ⟨Nat.le_of_ble_eq_true rfl, Nat.le_of_ble_eq_true rfl⟩ ⟨rfl, rfl⟩ ⟨Nat.zero_le _, Nat.zero_le _⟩ rfl (LRead_ob hr) rfl (Nat.le_of_ble_eq_true rfl) _ rfl (fun I6 h => ?_)
    refine x_goto (pc := 12) 21 dX3_expect_12 (by decide) ?_
    exact x_vret (pc := 21) dX3_expect_21 rfl (Nat.le_refl _) (Nat.le_refl _) ⟨rfl, rfl, h⟩
set_option maxRecDepth 100000 in
set_option maxHeartbeats 4000000 in
theorem t_X3_isWord_0 {Γ : GG} {P : MP} {I : MM} {R : Int → MM → Prop} (hr : LRead Γ P) {i : Nat} (hi : i < 9)
    (h : (inR (I 31 4)) ∧ (((I 31 4) ≠ (-1002) → R 0 I) ∧ ((I 31 4) = (-1002) → (inR ((I 31 3) - (I 31 2))) ∧ (inR (lenS.getD i 0 : Int)) ∧ ((((I 31 3) - (I 31 2)) = (lenS.getD i 0 : Int) → XM Γ m_X3_isWord 0 0 30 [(0, vR 31), (1, vR (500 + i)), (2, vI 0)] [] P I (ri P R)) ∧ (¬ ((I 31 3) - (I 31 2)) = (lenS.getD i 0 : Int) → R 0 I))))) :
    XM Γ m_X3_isWord 0 0 0 [(0, vR 31), (1, vR (500 + i))] [] P I (ri P R) := by
  refine x_aload_n (pc := 0) 0 dX3_isWord_0 rfl ?_
  refine x_getI (pc := 1) dX3_isWord_1 FC3 4 (by decide) rfl fl_X3_25 (LRead_ob hr) ?_
  refine x_sipush (pc := 4) dX3_isWord_4 rfl ?_
  obtain ⟨hr1, h⟩ := h
  obtain ⟨hA2, hB3⟩ := h
  refine x_icmp_ne (pc := 7) 26 dX3_isWord_7 (by decide) hr1 ⟨by decide, by decide⟩ (fun hc => ?_) (fun hc => ?_)
  · have h := hA2 hc
    refine x_iconst (pc := 26) dX3_isWord_26 ?_
    exact x_zret (pc := 27) dX3_isWord_27 rfl (by decide) (Nat.le_refl _) (Nat.le_refl _) ⟨_, rfl, rfl, h⟩
  · have h := hB3 hc
    refine x_aload_n (pc := 10) 0 dX3_isWord_10 rfl ?_
    refine x_getI (pc := 11) dX3_isWord_11 FC3 3 (by decide) rfl fl_X3_22 (LRead_ob hr) ?_
    refine x_aload_n (pc := 14) 0 dX3_isWord_14 rfl ?_
    refine x_getI (pc := 15) dX3_isWord_15 FC3 2 (by decide) rfl fl_X3_19 (LRead_ob hr) ?_
    refine x_isub (pc := 18) dX3_isWord_18 ?_
    refine x_aload_n (pc := 19) 1 dX3_isWord_19 rfl ?_
    refine x_slen (pc := 20) dX3_isWord_20 hi ml_X3_179 ⟨Nat.le_of_ble_eq_true rfl, Nat.le_of_ble_eq_true rfl⟩ ⟨Nat.zero_le _, Nat.zero_le _⟩ (Nat.le_of_ble_eq_true rfl) ?_
    obtain ⟨hr4, h⟩ := h
    obtain ⟨hr5, h⟩ := h
    obtain ⟨hA6, hB7⟩ := h
    refine x_icmp_eq (pc := 23) 28 dX3_isWord_23 (by decide) hr4 hr5 (fun hc => ?_) (fun hc => ?_)
    · have h := hA6 hc
      refine x_iconst (pc := 28) dX3_isWord_28 ?_
      refine x_istore_n (pc := 29) (al' := [(0, vR 31), (1, vR (500 + i)), (2, vI 0)]) dX3_isWord_29 rfl rfl (Nat.le_of_ble_eq_true rfl) ?_
      exact x_sub [0, 1, 2] rfl h
    · have h := hB7 hc
      refine x_iconst (pc := 26) dX3_isWord_26 ?_
      exact x_zret (pc := 27) dX3_isWord_27 rfl (by decide) (Nat.le_refl _) (Nat.le_refl _) ⟨_, rfl, rfl, h⟩
set_option maxRecDepth 100000 in
set_option maxHeartbeats 4000000 in
theorem t_X3_isWord_30 {Γ : GG} {P : MP} {I : MM} {R : Int → MM → Prop} {x2 : Int} (hr : LRead Γ P) {i : Nat} (hi : i < 9)
    (h : (inR x2) ∧ (inR (lenS.getD i 0 : Int)) ∧ (((lenS.getD i 0 : Int) ≤ x2 → R 1 I) ∧ (¬ (lenS.getD i 0 : Int) ≤ x2 → (0 ≤ ((I 31 2) + x2)) ∧ (((I 31 2) + x2) < 900) ∧ (0 ≤ x2) ∧ (x2 < (lenS.getD i 0 : Int)) ∧ (inR (I 32 (((I 31 2) + x2)).toNat)) ∧ (inR (chS i (x2).toNat)) ∧ (((I 32 (((I 31 2) + x2)).toNat) = (chS i (x2).toNat) → XM Γ m_X3_isWord 0 0 30 [(0, vR 31), (1, vR (500 + i)), (2, vI (x2 + 1))] [] P I (ri P R)) ∧ (¬ (I 32 (((I 31 2) + x2)).toNat) = (chS i (x2).toNat) → R 0 I))))) :
    XM Γ m_X3_isWord 0 0 30 [(0, vR 31), (1, vR (500 + i)), (2, vI x2)] [] P I (ri P R) := by
  refine x_iload_n (pc := 30) 2 dX3_isWord_30 rfl ?_
  refine x_aload_n (pc := 31) 1 dX3_isWord_31 rfl ?_
  refine x_slen (pc := 32) dX3_isWord_32 hi ml_X3_179 ⟨Nat.le_of_ble_eq_true rfl, Nat.le_of_ble_eq_true rfl⟩ ⟨Nat.zero_le _, Nat.zero_le _⟩ (Nat.le_of_ble_eq_true rfl) ?_
  obtain ⟨hr1, h⟩ := h
  obtain ⟨hr2, h⟩ := h
  obtain ⟨hA3, hB4⟩ := h
  refine x_icmp_ge (pc := 35) 65 dX3_isWord_35 (by decide) hr1 hr2 (fun hc => ?_) (fun hc => ?_)
  · have h := hA3 hc
    refine x_iconst (pc := 65) dX3_isWord_65 ?_
    exact x_zret (pc := 66) dX3_isWord_66 rfl (by decide) (Nat.le_refl _) (Nat.le_refl _) ⟨_, rfl, rfl, h⟩
  · have h := hB4 hc
    refine x_aload_n (pc := 38) 0 dX3_isWord_38 rfl ?_
    refine x_getP (pc := 39) dX3_isWord_39 FC3 0 (by decide) rfl fl_X3_9 (LRead_ob hr) (LRead_p0 hr) ?_
    refine x_aload_n (pc := 42) 0 dX3_isWord_42 rfl ?_
    refine x_getI (pc := 43) dX3_isWord_43 FC3 2 (by decide) rfl fl_X3_19 (LRead_ob hr) ?_
    refine x_iload_n (pc := 46) 2 dX3_isWord_46 rfl ?_
    refine x_iadd (pc := 47) dX3_isWord_47 ?_
    obtain ⟨hv5, h⟩ := h
    obtain ⟨hv6, h⟩ := h
    refine x_bald (pc := 48) dX3_isWord_48 (LRead_a0 hr) hv5 hv6 (by decide) ?_
    refine x_aload_n (pc := 49) 1 dX3_isWord_49 rfl ?_
    refine x_iload_n (pc := 50) 2 dX3_isWord_50 rfl ?_
    obtain ⟨hv7, h⟩ := h
    obtain ⟨hv8, h⟩ := h
    refine x_schar (pc := 51) dX3_isWord_51 hi ml_X3_184 ⟨Nat.le_of_ble_eq_true rfl, Nat.le_of_ble_eq_true rfl⟩ ⟨Nat.zero_le _, Nat.zero_le _⟩ (Nat.le_of_ble_eq_true rfl) hv7 hv8 ?_
    obtain ⟨hr9, h⟩ := h
    obtain ⟨hr10, h⟩ := h
    obtain ⟨hA11, hB12⟩ := h
    refine x_icmp_eq (pc := 54) 59 dX3_isWord_54 (by decide) hr9 hr10 (fun hc => ?_) (fun hc => ?_)
    · have h := hA11 hc
      refine x_iinc (pc := 59) (al' := [(0, vR 31), (1, vR (500 + i)), (2, vI (x2 + 1))]) 2 dX3_isWord_59 rfl rfl rfl (Nat.le_of_ble_eq_true rfl) ?_
      refine x_goto (pc := 62) 30 dX3_isWord_62 (by decide) ?_
      exact x_sub [0, 1, 2] rfl h
    · have h := hB12 hc
      refine x_iconst (pc := 57) dX3_isWord_57 ?_
      exact x_zret (pc := 58) dX3_isWord_58 rfl (by decide) (Nat.le_refl _) (Nat.le_refl _) ⟨_, rfl, rfl, h⟩
set_option maxRecDepth 100000 in
set_option maxHeartbeats 4000000 in
theorem t_X3_fail_0 {Γ : GG} {P : MP} {I : MM} {R : MM → Prop} {x1 : Int} (hr : LRead Γ P)
    (h : (inR (I 31 5)) ∧ (((I 31 5) ≠ 0 → (∀ I4 : MM, I4 = up2 I 31 4 (-1004) → R I4)) ∧ ((I 31 5) = 0 → (∀ I5 : MM, I5 = up2 I 31 5 x1 → (∀ I6 : MM, I6 = up2 I5 31 6 (I5 31 2) → (∀ I7 : MM, I7 = up2 I6 31 4 (-1004) → R I7)))))) :
    XM Γ m_X3_fail 0 0 0 [(0, vR 31), (1, vI x1)] [] P I (rv P R) := by
  refine x_aload_n (pc := 0) 0 dX3_fail_0 rfl ?_
  refine x_getI (pc := 1) dX3_fail_1 FC3 5 (by decide) rfl fl_X3_28 (LRead_ob hr) ?_
  obtain ⟨hr1, h⟩ := h
  obtain ⟨hA2, hB3⟩ := h
  refine x_if_ne (pc := 4) 20 dX3_fail_4 (by decide) hr1 (fun hc => ?_) (fun hc => ?_)
  · have h := hA2 hc
    refine x_aload_n (pc := 20) 0 dX3_fail_20 rfl ?_
    refine x_sipush (pc := 21) dX3_fail_21 rfl ?_
    refine x_putI (pc := 24) dX3_fail_24 FC3 4 (by decide) rfl rfl fl_X3_25 (LRead_ob hr) ?_
    refine x_nmI (fun I4 eI4 => ?_)
    have h := h I4 eI4
    exact x_vret (pc := 27) dX3_fail_27 rfl (Nat.le_refl _) (Nat.le_refl _) ⟨rfl, rfl, h⟩
  · have h := hB3 hc
    refine x_aload_n (pc := 7) 0 dX3_fail_7 rfl ?_
    refine x_iload_n (pc := 8) 1 dX3_fail_8 rfl ?_
    refine x_putI (pc := 9) dX3_fail_9 FC3 5 (by decide) rfl rfl fl_X3_28 (LRead_ob hr) ?_
    refine x_nmI (fun I5 eI5 => ?_)
    have h := h I5 eI5
    refine x_aload_n (pc := 12) 0 dX3_fail_12 rfl ?_
    refine x_aload_n (pc := 13) 0 dX3_fail_13 rfl ?_
    refine x_getI (pc := 14) dX3_fail_14 FC3 2 (by decide) rfl fl_X3_19 (LRead_ob hr) ?_
    refine x_putI (pc := 17) dX3_fail_17 FC3 6 (by decide) rfl rfl fl_X3_31 (LRead_ob hr) ?_
    refine x_nmI (fun I6 eI6 => ?_)
    have h := h I6 eI6
    refine x_aload_n (pc := 20) 0 dX3_fail_20 rfl ?_
    refine x_sipush (pc := 21) dX3_fail_21 rfl ?_
    refine x_putI (pc := 24) dX3_fail_24 FC3 4 (by decide) rfl rfl fl_X3_25 (LRead_ob hr) ?_
    refine x_nmI (fun I7 eI7 => ?_)
    have h := h I7 eI7
    exact x_vret (pc := 27) dX3_fail_27 rfl (Nat.le_refl _) (Nat.le_refl _) ⟨rfl, rfl, h⟩
set_option maxRecDepth 100000 in
set_option maxHeartbeats 4000000 in
theorem t_X3_next_0 {Γ : GG} {P : MP} {I : MM} {R : MM → Prop} (hr : LRead Γ P)
    (h : (inR (I 31 5)) ∧ (((I 31 5) = 0 → XM Γ m_X3_next 0 0 8 [(0, vR 31)] [] P I (rv P R)) ∧ (¬ (I 31 5) = 0 → R I))) :
    XM Γ m_X3_next 0 0 0 [(0, vR 31)] [] P I (rv P R) := by
  refine x_aload_n (pc := 0) 0 dX3_next_0 rfl ?_
  refine x_getI (pc := 1) dX3_next_1 FC3 5 (by decide) rfl fl_X3_28 (LRead_ob hr) ?_
  obtain ⟨hr1, h⟩ := h
  obtain ⟨hA2, hB3⟩ := h
  refine x_if_eq (pc := 4) 8 dX3_next_4 (by decide) hr1 (fun hc => ?_) (fun hc => ?_)
  · have h := hA2 hc
    exact x_sub [0] rfl h
  · have h := hB3 hc
    exact x_vret (pc := 7) dX3_next_7 rfl (Nat.le_refl _) (Nat.le_refl _) ⟨rfl, rfl, h⟩
set_option maxRecDepth 100000 in
set_option maxHeartbeats 4000000 in
theorem t_X3_next_8 {Γ : GG} {P : MP} {I : MM} {R : MM → Prop} (hr : LRead Γ P)
    (h : (inR (I 31 3)) ∧ (inR (I 31 1)) ∧ (((I 31 1) ≤ (I 31 3) → (∀ I5 : MM, I5 = up2 I 31 2 (I 31 3) → (inR (I5 31 3)) ∧ (inR (I5 31 1)) ∧ (((I5 31 3) < (I5 31 1) → (0 ≤ (I5 31 3)) ∧ ((I5 31 3) < 900) ∧ (∀ u12 : Int, u12 = (I5 32 ((I5 31 3)).toNat) → (∀ I13 : MM, I13 = up2 I5 31 3 ((I5 31 3) + 1) → (inR u12) ∧ ((u12 < 48 → ((u12 < 97 → (∀ I19 : MM, I19 = up2 I13 31 4 u12 → R I19)) ∧ (¬ u12 < 97 → ((122 < u12 → (∀ I22 : MM, I22 = up2 I13 31 4 u12 → R I22)) ∧ (¬ 122 < u12 → (∀ I23 : MM, I23 = up2 I13 31 4 (-1002) → XM Γ m_X3_next 0 0 183 [(0, vR 31)] [] P I23 (rv P R))))))) ∧ (¬ u12 < 48 → ((57 < u12 → ((u12 < 97 → (∀ I28 : MM, I28 = up2 I13 31 4 u12 → R I28)) ∧ (¬ u12 < 97 → ((122 < u12 → (∀ I31 : MM, I31 = up2 I13 31 4 u12 → R I31)) ∧ (¬ 122 < u12 → (∀ I32 : MM, I32 = up2 I13 31 4 (-1002) → XM Γ m_X3_next 0 0 183 [(0, vR 31)] [] P I32 (rv P R))))))) ∧ (¬ 57 < u12 → (∀ I33 : MM, I33 = up2 I13 31 4 (-1001) → XM Γ m_X3_next 0 0 112 [(0, vR 31)] [] P I33 (rv P R))))))))) ∧ (¬ (I5 31 3) < (I5 31 1) → (∀ I34 : MM, I34 = up2 I5 31 4 (-1003) → R I34))))) ∧ (¬ (I 31 1) ≤ (I 31 3) → (0 ≤ (I 31 3)) ∧ ((I 31 3) < 900) ∧ (inR (I 32 ((I 31 3)).toNat)) ∧ (((I 32 ((I 31 3)).toNat) ≠ 32 → (∀ I40 : MM, I40 = up2 I 31 2 (I 31 3) → (inR (I40 31 3)) ∧ (inR (I40 31 1)) ∧ (((I40 31 3) < (I40 31 1) → (0 ≤ (I40 31 3)) ∧ ((I40 31 3) < 900) ∧ (∀ u47 : Int, u47 = (I40 32 ((I40 31 3)).toNat) → (∀ I48 : MM, I48 = up2 I40 31 3 ((I40 31 3) + 1) → (inR u47) ∧ ((u47 < 48 → ((u47 < 97 → (∀ I54 : MM, I54 = up2 I48 31 4 u47 → R I54)) ∧ (¬ u47 < 97 → ((122 < u47 → (∀ I57 : MM, I57 = up2 I48 31 4 u47 → R I57)) ∧ (¬ 122 < u47 → (∀ I58 : MM, I58 = up2 I48 31 4 (-1002) → XM Γ m_X3_next 0 0 183 [(0, vR 31)] [] P I58 (rv P R))))))) ∧ (¬ u47 < 48 → ((57 < u47 → ((u47 < 97 → (∀ I63 : MM, I63 = up2 I48 31 4 u47 → R I63)) ∧ (¬ u47 < 97 → ((122 < u47 → (∀ I66 : MM, I66 = up2 I48 31 4 u47 → R I66)) ∧ (¬ 122 < u47 → (∀ I67 : MM, I67 = up2 I48 31 4 (-1002) → XM Γ m_X3_next 0 0 183 [(0, vR 31)] [] P I67 (rv P R))))))) ∧ (¬ 57 < u47 → (∀ I68 : MM, I68 = up2 I48 31 4 (-1001) → XM Γ m_X3_next 0 0 112 [(0, vR 31)] [] P I68 (rv P R))))))))) ∧ (¬ (I40 31 3) < (I40 31 1) → (∀ I69 : MM, I69 = up2 I40 31 4 (-1003) → R I69))))) ∧ ((I 32 ((I 31 3)).toNat) = 32 → (∀ I70 : MM, I70 = up2 I 31 3 ((I 31 3) + 1) → XM Γ m_X3_next 0 0 8 [(0, vR 31)] [] P I70 (rv P R))))))) :
    XM Γ m_X3_next 0 0 8 [(0, vR 31)] [] P I (rv P R) := by
  refine x_aload_n (pc := 8) 0 dX3_next_8 rfl ?_
  refine x_getI (pc := 9) dX3_next_9 FC3 3 (by decide) rfl fl_X3_22 (LRead_ob hr) ?_
  refine x_aload_n (pc := 12) 0 dX3_next_12 rfl ?_
  refine x_getI (pc := 13) dX3_next_13 FC3 1 (by decide) rfl fl_X3_15 (LRead_ob hr) ?_
  obtain ⟨hr1, h⟩ := h
  obtain ⟨hr2, h⟩ := h
  obtain ⟨hA3, hB4⟩ := h
  refine x_icmp_ge (pc := 16) 46 dX3_next_16 (by decide) hr1 hr2 (fun hc => ?_) (fun hc => ?_)
  · have h := hA3 hc
    refine x_aload_n (pc := 46) 0 dX3_next_46 rfl ?_
    refine x_aload_n (pc := 47) 0 dX3_next_47 rfl ?_
    refine x_getI (pc := 48) dX3_next_48 FC3 3 (by decide) rfl fl_X3_22 (LRead_ob hr) ?_
    refine x_putI (pc := 51) dX3_next_51 FC3 2 (by decide) rfl rfl fl_X3_19 (LRead_ob hr) ?_
    refine x_nmI (fun I5 eI5 => ?_)
    have h := h I5 eI5
    refine x_aload_n (pc := 54) 0 dX3_next_54 rfl ?_
    refine x_getI (pc := 55) dX3_next_55 FC3 3 (by decide) rfl fl_X3_22 (LRead_ob hr) ?_
    refine x_aload_n (pc := 58) 0 dX3_next_58 rfl ?_
    refine x_getI (pc := 59) dX3_next_59 FC3 1 (by decide) rfl fl_X3_15 (LRead_ob hr) ?_
    obtain ⟨hr6, h⟩ := h
    obtain ⟨hr7, h⟩ := h
    obtain ⟨hA8, hB9⟩ := h
    refine x_icmp_lt (pc := 62) 73 dX3_next_62 (by decide) hr6 hr7 (fun hc => ?_) (fun hc => ?_)
    · have h := hA8 hc
      refine x_aload_n (pc := 73) 0 dX3_next_73 rfl ?_
      refine x_getP (pc := 74) dX3_next_74 FC3 0 (by decide) rfl fl_X3_9 (LRead_ob hr) (LRead_p0 hr) ?_
      refine x_aload_n (pc := 77) 0 dX3_next_77 rfl ?_
      refine x_getI (pc := 78) dX3_next_78 FC3 3 (by decide) rfl fl_X3_22 (LRead_ob hr) ?_
      obtain ⟨hv10, h⟩ := h
      obtain ⟨hv11, h⟩ := h
      refine x_bald (pc := 81) dX3_next_81 (LRead_a0 hr) hv10 hv11 (by decide) ?_
      refine x_nmT (fun u12 eu12 => ?_)
      have h := h u12 eu12
      refine x_istore_n (pc := 82) (al' := [(0, vR 31), (1, vI u12)]) dX3_next_82 rfl rfl (Nat.le_of_ble_eq_true rfl) ?_
      refine x_aload_n (pc := 83) 0 dX3_next_83 rfl ?_
      refine x_dup (pc := 84) dX3_next_84 rfl ?_
      refine x_getI (pc := 85) dX3_next_85 FC3 3 (by decide) rfl fl_X3_22 (LRead_ob hr) ?_
      refine x_iconst (pc := 88) dX3_next_88 ?_
      refine x_iadd (pc := 89) dX3_next_89 ?_
      refine x_putI (pc := 90) dX3_next_90 FC3 3 (by decide) rfl rfl fl_X3_22 (LRead_ob hr) ?_
      refine x_nmI (fun I13 eI13 => ?_)
      have h := h I13 eI13
      refine x_iload_n (pc := 93) 1 dX3_next_93 rfl ?_
      refine x_bipush (pc := 94) dX3_next_94 rfl ?_
      obtain ⟨hr14, h⟩ := h
      obtain ⟨hA15, hB16⟩ := h
      refine x_icmp_lt (pc := 96) 164 dX3_next_96 (by decide) hr14 ⟨by decide, by decide⟩ (fun hc => ?_) (fun hc => ?_)
      · have h := hA15 hc
        refine x_iload_n (pc := 164) 1 dX3_next_164 rfl ?_
        refine x_bipush (pc := 165) dX3_next_165 rfl ?_
        obtain ⟨hA17, hB18⟩ := h
        refine x_icmp_lt (pc := 167) 235 dX3_next_167 (by decide) hr14 ⟨by decide, by decide⟩ (fun hc => ?_) (fun hc => ?_)
        · have h := hA17 hc
          refine x_aload_n (pc := 235) 0 dX3_next_235 rfl ?_
          refine x_iload_n (pc := 236) 1 dX3_next_236 rfl ?_
          refine x_putI (pc := 237) dX3_next_237 FC3 4 (by decide) rfl rfl fl_X3_25 (LRead_ob hr) ?_
          refine x_nmI (fun I19 eI19 => ?_)
          have h := h I19 eI19
          exact x_vret (pc := 240) dX3_next_240 rfl (Nat.le_refl _) (Nat.le_refl _) ⟨rfl, rfl, h⟩
        · have h := hB18 hc
          refine x_iload_n (pc := 170) 1 dX3_next_170 rfl ?_
          refine x_bipush (pc := 171) dX3_next_171 rfl ?_
          obtain ⟨hA20, hB21⟩ := h
          refine x_icmp_gt (pc := 173) 235 dX3_next_173 (by decide) hr14 ⟨by decide, by decide⟩ (fun hc => ?_) (fun hc => ?_)
          · have h := hA20 hc
            refine x_aload_n (pc := 235) 0 dX3_next_235 rfl ?_
            refine x_iload_n (pc := 236) 1 dX3_next_236 rfl ?_
            refine x_putI (pc := 237) dX3_next_237 FC3 4 (by decide) rfl rfl fl_X3_25 (LRead_ob hr) ?_
            refine x_nmI (fun I22 eI22 => ?_)
            have h := h I22 eI22
            exact x_vret (pc := 240) dX3_next_240 rfl (Nat.le_refl _) (Nat.le_refl _) ⟨rfl, rfl, h⟩
          · have h := hB21 hc
            refine x_aload_n (pc := 176) 0 dX3_next_176 rfl ?_
            refine x_sipush (pc := 177) dX3_next_177 rfl ?_
            refine x_putI (pc := 180) dX3_next_180 FC3 4 (by decide) rfl rfl fl_X3_25 (LRead_ob hr) ?_
            refine x_nmI (fun I23 eI23 => ?_)
            have h := h I23 eI23
            exact x_sub [0] rfl h
      · have h := hB16 hc
        refine x_iload_n (pc := 99) 1 dX3_next_99 rfl ?_
        refine x_bipush (pc := 100) dX3_next_100 rfl ?_
        obtain ⟨hA24, hB25⟩ := h
        refine x_icmp_gt (pc := 102) 164 dX3_next_102 (by decide) hr14 ⟨by decide, by decide⟩ (fun hc => ?_) (fun hc => ?_)
        · have h := hA24 hc
          refine x_iload_n (pc := 164) 1 dX3_next_164 rfl ?_
          refine x_bipush (pc := 165) dX3_next_165 rfl ?_
          obtain ⟨hA26, hB27⟩ := h
          refine x_icmp_lt (pc := 167) 235 dX3_next_167 (by decide) hr14 ⟨by decide, by decide⟩ (fun hc => ?_) (fun hc => ?_)
          · have h := hA26 hc
            refine x_aload_n (pc := 235) 0 dX3_next_235 rfl ?_
            refine x_iload_n (pc := 236) 1 dX3_next_236 rfl ?_
            refine x_putI (pc := 237) dX3_next_237 FC3 4 (by decide) rfl rfl fl_X3_25 (LRead_ob hr) ?_
            refine x_nmI (fun I28 eI28 => ?_)
            have h := h I28 eI28
            exact x_vret (pc := 240) dX3_next_240 rfl (Nat.le_refl _) (Nat.le_refl _) ⟨rfl, rfl, h⟩
          · have h := hB27 hc
            refine x_iload_n (pc := 170) 1 dX3_next_170 rfl ?_
            refine x_bipush (pc := 171) dX3_next_171 rfl ?_
            obtain ⟨hA29, hB30⟩ := h
            refine x_icmp_gt (pc := 173) 235 dX3_next_173 (by decide) hr14 ⟨by decide, by decide⟩ (fun hc => ?_) (fun hc => ?_)
            · have h := hA29 hc
              refine x_aload_n (pc := 235) 0 dX3_next_235 rfl ?_
              refine x_iload_n (pc := 236) 1 dX3_next_236 rfl ?_
              refine x_putI (pc := 237) dX3_next_237 FC3 4 (by decide) rfl rfl fl_X3_25 (LRead_ob hr) ?_
              refine x_nmI (fun I31 eI31 => ?_)
              have h := h I31 eI31
              exact x_vret (pc := 240) dX3_next_240 rfl (Nat.le_refl _) (Nat.le_refl _) ⟨rfl, rfl, h⟩
            · have h := hB30 hc
              refine x_aload_n (pc := 176) 0 dX3_next_176 rfl ?_
              refine x_sipush (pc := 177) dX3_next_177 rfl ?_
              refine x_putI (pc := 180) dX3_next_180 FC3 4 (by decide) rfl rfl fl_X3_25 (LRead_ob hr) ?_
              refine x_nmI (fun I32 eI32 => ?_)
              have h := h I32 eI32
              exact x_sub [0] rfl h
        · have h := hB25 hc
          refine x_aload_n (pc := 105) 0 dX3_next_105 rfl ?_
          refine x_sipush (pc := 106) dX3_next_106 rfl ?_
          refine x_putI (pc := 109) dX3_next_109 FC3 4 (by decide) rfl rfl fl_X3_25 (LRead_ob hr) ?_
          refine x_nmI (fun I33 eI33 => ?_)
          have h := h I33 eI33
          exact x_sub [0] rfl h
    · have h := hB9 hc
      refine x_aload_n (pc := 65) 0 dX3_next_65 rfl ?_
      refine x_sipush (pc := 66) dX3_next_66 rfl ?_
      refine x_putI (pc := 69) dX3_next_69 FC3 4 (by decide) rfl rfl fl_X3_25 (LRead_ob hr) ?_
      refine x_nmI (fun I34 eI34 => ?_)
      have h := h I34 eI34
      exact x_vret (pc := 72) dX3_next_72 rfl (Nat.le_refl _) (Nat.le_refl _) ⟨rfl, rfl, h⟩
  · have h := hB4 hc
    refine x_aload_n (pc := 19) 0 dX3_next_19 rfl ?_
    refine x_getP (pc := 20) dX3_next_20 FC3 0 (by decide) rfl fl_X3_9 (LRead_ob hr) (LRead_p0 hr) ?_
    refine x_aload_n (pc := 23) 0 dX3_next_23 rfl ?_
    refine x_getI (pc := 24) dX3_next_24 FC3 3 (by decide) rfl fl_X3_22 (LRead_ob hr) ?_
    obtain ⟨hv35, h⟩ := h
    obtain ⟨hv36, h⟩ := h
    refine x_bald (pc := 27) dX3_next_27 (LRead_a0 hr) hv35 hv36 (by decide) ?_
    refine x_bipush (pc := 28) dX3_next_28 rfl ?_
    obtain ⟨hr37, h⟩ := h
    obtain ⟨hA38, hB39⟩ := h
    refine x_icmp_ne (pc := 30) 46 dX3_next_30 (by decide) hr37 ⟨by decide, by decide⟩ (fun hc => ?_) (fun hc => ?_)
    · have h := hA38 hc
      refine x_aload_n (pc := 46) 0 dX3_next_46 rfl ?_
      refine x_aload_n (pc := 47) 0 dX3_next_47 rfl ?_
      refine x_getI (pc := 48) dX3_next_48 FC3 3 (by decide) rfl fl_X3_22 (LRead_ob hr) ?_
      refine x_putI (pc := 51) dX3_next_51 FC3 2 (by decide) rfl rfl fl_X3_19 (LRead_ob hr) ?_
      refine x_nmI (fun I40 eI40 => ?_)
      have h := h I40 eI40
      refine x_aload_n (pc := 54) 0 dX3_next_54 rfl ?_
      refine x_getI (pc := 55) dX3_next_55 FC3 3 (by decide) rfl fl_X3_22 (LRead_ob hr) ?_
      refine x_aload_n (pc := 58) 0 dX3_next_58 rfl ?_
      refine x_getI (pc := 59) dX3_next_59 FC3 1 (by decide) rfl fl_X3_15 (LRead_ob hr) ?_
      obtain ⟨hr41, h⟩ := h
      obtain ⟨hr42, h⟩ := h
      obtain ⟨hA43, hB44⟩ := h
      refine x_icmp_lt (pc := 62) 73 dX3_next_62 (by decide) hr41 hr42 (fun hc => ?_) (fun hc => ?_)
      · have h := hA43 hc
        refine x_aload_n (pc := 73) 0 dX3_next_73 rfl ?_
        refine x_getP (pc := 74) dX3_next_74 FC3 0 (by decide) rfl fl_X3_9 (LRead_ob hr) (LRead_p0 hr) ?_
        refine x_aload_n (pc := 77) 0 dX3_next_77 rfl ?_
        refine x_getI (pc := 78) dX3_next_78 FC3 3 (by decide) rfl fl_X3_22 (LRead_ob hr) ?_
        obtain ⟨hv45, h⟩ := h
        obtain ⟨hv46, h⟩ := h
        refine x_bald (pc := 81) dX3_next_81 (LRead_a0 hr) hv45 hv46 (by decide) ?_
        refine x_nmT (fun u47 eu47 => ?_)
        have h := h u47 eu47
        refine x_istore_n (pc := 82) (al' := [(0, vR 31), (1, vI u47)]) dX3_next_82 rfl rfl (Nat.le_of_ble_eq_true rfl) ?_
        refine x_aload_n (pc := 83) 0 dX3_next_83 rfl ?_
        refine x_dup (pc := 84) dX3_next_84 rfl ?_
        refine x_getI (pc := 85) dX3_next_85 FC3 3 (by decide) rfl fl_X3_22 (LRead_ob hr) ?_
        refine x_iconst (pc := 88) dX3_next_88 ?_
        refine x_iadd (pc := 89) dX3_next_89 ?_
        refine x_putI (pc := 90) dX3_next_90 FC3 3 (by decide) rfl rfl fl_X3_22 (LRead_ob hr) ?_
        refine x_nmI (fun I48 eI48 => ?_)
        have h := h I48 eI48
        refine x_iload_n (pc := 93) 1 dX3_next_93 rfl ?_
        refine x_bipush (pc := 94) dX3_next_94 rfl ?_
        obtain ⟨hr49, h⟩ := h
        obtain ⟨hA50, hB51⟩ := h
        refine x_icmp_lt (pc := 96) 164 dX3_next_96 (by decide) hr49 ⟨by decide, by decide⟩ (fun hc => ?_) (fun hc => ?_)
        · have h := hA50 hc
          refine x_iload_n (pc := 164) 1 dX3_next_164 rfl ?_
          refine x_bipush (pc := 165) dX3_next_165 rfl ?_
          obtain ⟨hA52, hB53⟩ := h
          refine x_icmp_lt (pc := 167) 235 dX3_next_167 (by decide) hr49 ⟨by decide, by decide⟩ (fun hc => ?_) (fun hc => ?_)
          · have h := hA52 hc
            refine x_aload_n (pc := 235) 0 dX3_next_235 rfl ?_
            refine x_iload_n (pc := 236) 1 dX3_next_236 rfl ?_
            refine x_putI (pc := 237) dX3_next_237 FC3 4 (by decide) rfl rfl fl_X3_25 (LRead_ob hr) ?_
            refine x_nmI (fun I54 eI54 => ?_)
            have h := h I54 eI54
            exact x_vret (pc := 240) dX3_next_240 rfl (Nat.le_refl _) (Nat.le_refl _) ⟨rfl, rfl, h⟩
          · have h := hB53 hc
            refine x_iload_n (pc := 170) 1 dX3_next_170 rfl ?_
            refine x_bipush (pc := 171) dX3_next_171 rfl ?_
            obtain ⟨hA55, hB56⟩ := h
            refine x_icmp_gt (pc := 173) 235 dX3_next_173 (by decide) hr49 ⟨by decide, by decide⟩ (fun hc => ?_) (fun hc => ?_)
            · have h := hA55 hc
              refine x_aload_n (pc := 235) 0 dX3_next_235 rfl ?_
              refine x_iload_n (pc := 236) 1 dX3_next_236 rfl ?_
              refine x_putI (pc := 237) dX3_next_237 FC3 4 (by decide) rfl rfl fl_X3_25 (LRead_ob hr) ?_
              refine x_nmI (fun I57 eI57 => ?_)
              have h := h I57 eI57
              exact x_vret (pc := 240) dX3_next_240 rfl (Nat.le_refl _) (Nat.le_refl _) ⟨rfl, rfl, h⟩
            · have h := hB56 hc
              refine x_aload_n (pc := 176) 0 dX3_next_176 rfl ?_
              refine x_sipush (pc := 177) dX3_next_177 rfl ?_
              refine x_putI (pc := 180) dX3_next_180 FC3 4 (by decide) rfl rfl fl_X3_25 (LRead_ob hr) ?_
              refine x_nmI (fun I58 eI58 => ?_)
              have h := h I58 eI58
              exact x_sub [0] rfl h
        · have h := hB51 hc
          refine x_iload_n (pc := 99) 1 dX3_next_99 rfl ?_
          refine x_bipush (pc := 100) dX3_next_100 rfl ?_
          obtain ⟨hA59, hB60⟩ := h
          refine x_icmp_gt (pc := 102) 164 dX3_next_102 (by decide) hr49 ⟨by decide, by decide⟩ (fun hc => ?_) (fun hc => ?_)
          · have h := hA59 hc
            refine x_iload_n (pc := 164) 1 dX3_next_164 rfl ?_
            refine x_bipush (pc := 165) dX3_next_165 rfl ?_
            obtain ⟨hA61, hB62⟩ := h
            refine x_icmp_lt (pc := 167) 235 dX3_next_167 (by decide) hr49 ⟨by decide, by decide⟩ (fun hc => ?_) (fun hc => ?_)
            · have h := hA61 hc
              refine x_aload_n (pc := 235) 0 dX3_next_235 rfl ?_
              refine x_iload_n (pc := 236) 1 dX3_next_236 rfl ?_
              refine x_putI (pc := 237) dX3_next_237 FC3 4 (by decide) rfl rfl fl_X3_25 (LRead_ob hr) ?_
              refine x_nmI (fun I63 eI63 => ?_)
              have h := h I63 eI63
              exact x_vret (pc := 240) dX3_next_240 rfl (Nat.le_refl _) (Nat.le_refl _) ⟨rfl, rfl, h⟩
            · have h := hB62 hc
              refine x_iload_n (pc := 170) 1 dX3_next_170 rfl ?_
              refine x_bipush (pc := 171) dX3_next_171 rfl ?_
              obtain ⟨hA64, hB65⟩ := h
              refine x_icmp_gt (pc := 173) 235 dX3_next_173 (by decide) hr49 ⟨by decide, by decide⟩ (fun hc => ?_) (fun hc => ?_)
              · have h := hA64 hc
                refine x_aload_n (pc := 235) 0 dX3_next_235 rfl ?_
                refine x_iload_n (pc := 236) 1 dX3_next_236 rfl ?_
                refine x_putI (pc := 237) dX3_next_237 FC3 4 (by decide) rfl rfl fl_X3_25 (LRead_ob hr) ?_
                refine x_nmI (fun I66 eI66 => ?_)
                have h := h I66 eI66
                exact x_vret (pc := 240) dX3_next_240 rfl (Nat.le_refl _) (Nat.le_refl _) ⟨rfl, rfl, h⟩
              · have h := hB65 hc
                refine x_aload_n (pc := 176) 0 dX3_next_176 rfl ?_
                refine x_sipush (pc := 177) dX3_next_177 rfl ?_
                refine x_putI (pc := 180) dX3_next_180 FC3 4 (by decide) rfl rfl fl_X3_25 (LRead_ob hr) ?_
                refine x_nmI (fun I67 eI67 => ?_)
                have h := h I67 eI67
                exact x_sub [0] rfl h
          · have h := hB60 hc
            refine x_aload_n (pc := 105) 0 dX3_next_105 rfl ?_
            refine x_sipush (pc := 106) dX3_next_106 rfl ?_
            refine x_putI (pc := 109) dX3_next_109 FC3 4 (by decide) rfl rfl fl_X3_25 (LRead_ob hr) ?_
            refine x_nmI (fun I68 eI68 => ?_)
            have h := h I68 eI68
            exact x_sub [0] rfl h
      · have h := hB44 hc
        refine x_aload_n (pc := 65) 0 dX3_next_65 rfl ?_
        refine x_sipush (pc := 66) dX3_next_66 rfl ?_
        refine x_putI (pc := 69) dX3_next_69 FC3 4 (by decide) rfl rfl fl_X3_25 (LRead_ob hr) ?_
        refine x_nmI (fun I69 eI69 => ?_)
        have h := h I69 eI69
        exact x_vret (pc := 72) dX3_next_72 rfl (Nat.le_refl _) (Nat.le_refl _) ⟨rfl, rfl, h⟩
    · have h := hB39 hc
      refine x_aload_n (pc := 33) 0 dX3_next_33 rfl ?_
      refine x_dup (pc := 34) dX3_next_34 rfl ?_
      refine x_getI (pc := 35) dX3_next_35 FC3 3 (by decide) rfl fl_X3_22 (LRead_ob hr) ?_
      refine x_iconst (pc := 38) dX3_next_38 ?_
      refine x_iadd (pc := 39) dX3_next_39 ?_
      refine x_putI (pc := 40) dX3_next_40 FC3 3 (by decide) rfl rfl fl_X3_22 (LRead_ob hr) ?_
      refine x_nmI (fun I70 eI70 => ?_)
      have h := h I70 eI70
      refine x_goto (pc := 43) 8 dX3_next_43 (by decide) ?_
      exact x_sub [0] rfl h
set_option maxRecDepth 100000 in
set_option maxHeartbeats 4000000 in
theorem t_X3_next_183 {Γ : GG} {P : MP} {I : MM} {R : MM → Prop} (hr : LRead Γ P)
    (h : (inR (I 31 3)) ∧ (inR (I 31 1)) ∧ (((I 31 1) ≤ (I 31 3) → R I) ∧ (¬ (I 31 1) ≤ (I 31 3) → (0 ≤ (I 31 3)) ∧ ((I 31 3) < 900) ∧ (inR (I 32 ((I 31 3)).toNat)) ∧ (((I 32 ((I 31 3)).toNat) < 97 → R I) ∧ (¬ (I 32 ((I 31 3)).toNat) < 97 → ((122 < (I 32 ((I 31 3)).toNat) → R I) ∧ (¬ 122 < (I 32 ((I 31 3)).toNat) → (∀ I12 : MM, I12 = up2 I 31 3 ((I 31 3) + 1) → XM Γ m_X3_next 0 0 183 [(0, vR 31)] [] P I12 (rv P R))))))))) :
    XM Γ m_X3_next 0 0 183 [(0, vR 31)] [] P I (rv P R) := by
  refine x_aload_n (pc := 183) 0 dX3_next_183 rfl ?_
  refine x_getI (pc := 184) dX3_next_184 FC3 3 (by decide) rfl fl_X3_22 (LRead_ob hr) ?_
  refine x_aload_n (pc := 187) 0 dX3_next_187 rfl ?_
  refine x_getI (pc := 188) dX3_next_188 FC3 1 (by decide) rfl fl_X3_15 (LRead_ob hr) ?_
  obtain ⟨hr1, h⟩ := h
  obtain ⟨hr2, h⟩ := h
  obtain ⟨hA3, hB4⟩ := h
  refine x_icmp_ge (pc := 191) 240 dX3_next_191 (by decide) hr1 hr2 (fun hc => ?_) (fun hc => ?_)
  · have h := hA3 hc
    exact x_vret (pc := 240) dX3_next_240 rfl (Nat.le_refl _) (Nat.le_refl _) ⟨rfl, rfl, h⟩
  · have h := hB4 hc
    refine x_aload_n (pc := 194) 0 dX3_next_194 rfl ?_
    refine x_getP (pc := 195) dX3_next_195 FC3 0 (by decide) rfl fl_X3_9 (LRead_ob hr) (LRead_p0 hr) ?_
    refine x_aload_n (pc := 198) 0 dX3_next_198 rfl ?_
    refine x_getI (pc := 199) dX3_next_199 FC3 3 (by decide) rfl fl_X3_22 (LRead_ob hr) ?_
    obtain ⟨hv5, h⟩ := h
    obtain ⟨hv6, h⟩ := h
    refine x_bald (pc := 202) dX3_next_202 (LRead_a0 hr) hv5 hv6 (by decide) ?_
    refine x_bipush (pc := 203) dX3_next_203 rfl ?_
    obtain ⟨hr7, h⟩ := h
    obtain ⟨hA8, hB9⟩ := h
    refine x_icmp_lt (pc := 205) 240 dX3_next_205 (by decide) hr7 ⟨by decide, by decide⟩ (fun hc => ?_) (fun hc => ?_)
    · have h := hA8 hc
      exact x_vret (pc := 240) dX3_next_240 rfl (Nat.le_refl _) (Nat.le_refl _) ⟨rfl, rfl, h⟩
    · have h := hB9 hc
      refine x_aload_n (pc := 208) 0 dX3_next_208 rfl ?_
      refine x_getP (pc := 209) dX3_next_209 FC3 0 (by decide) rfl fl_X3_9 (LRead_ob hr) (LRead_p0 hr) ?_
      refine x_aload_n (pc := 212) 0 dX3_next_212 rfl ?_
      refine x_getI (pc := 213) dX3_next_213 FC3 3 (by decide) rfl fl_X3_22 (LRead_ob hr) ?_
      refine x_bald (pc := 216) dX3_next_216 (LRead_a0 hr) hv5 hv6 (by decide) ?_
      refine x_bipush (pc := 217) dX3_next_217 rfl ?_
      obtain ⟨hA10, hB11⟩ := h
      refine x_icmp_gt (pc := 219) 240 dX3_next_219 (by decide) hr7 ⟨by decide, by decide⟩ (fun hc => ?_) (fun hc => ?_)
      · have h := hA10 hc
        exact x_vret (pc := 240) dX3_next_240 rfl (Nat.le_refl _) (Nat.le_refl _) ⟨rfl, rfl, h⟩
      · have h := hB11 hc
        refine x_aload_n (pc := 222) 0 dX3_next_222 rfl ?_
        refine x_dup (pc := 223) dX3_next_223 rfl ?_
        refine x_getI (pc := 224) dX3_next_224 FC3 3 (by decide) rfl fl_X3_22 (LRead_ob hr) ?_
        refine x_iconst (pc := 227) dX3_next_227 ?_
        refine x_iadd (pc := 228) dX3_next_228 ?_
        refine x_putI (pc := 229) dX3_next_229 FC3 3 (by decide) rfl rfl fl_X3_22 (LRead_ob hr) ?_
        refine x_nmI (fun I12 eI12 => ?_)
        have h := h I12 eI12
        refine x_goto (pc := 232) 183 dX3_next_232 (by decide) ?_
        exact x_sub [0] rfl h
set_option maxRecDepth 100000 in
set_option maxHeartbeats 4000000 in
theorem t_X3_next_112 {Γ : GG} {P : MP} {I : MM} {R : MM → Prop} (hr : LRead Γ P)
    (h : (inR (I 31 3)) ∧ (inR (I 31 1)) ∧ (((I 31 1) ≤ (I 31 3) → R I) ∧ (¬ (I 31 1) ≤ (I 31 3) → (0 ≤ (I 31 3)) ∧ ((I 31 3) < 900) ∧ (inR (I 32 ((I 31 3)).toNat)) ∧ (((I 32 ((I 31 3)).toNat) < 48 → R I) ∧ (¬ (I 32 ((I 31 3)).toNat) < 48 → ((57 < (I 32 ((I 31 3)).toNat) → R I) ∧ (¬ 57 < (I 32 ((I 31 3)).toNat) → (∀ I12 : MM, I12 = up2 I 31 3 ((I 31 3) + 1) → XM Γ m_X3_next 0 0 112 [(0, vR 31)] [] P I12 (rv P R))))))))) :
    XM Γ m_X3_next 0 0 112 [(0, vR 31)] [] P I (rv P R) := by
  refine x_aload_n (pc := 112) 0 dX3_next_112 rfl ?_
  refine x_getI (pc := 113) dX3_next_113 FC3 3 (by decide) rfl fl_X3_22 (LRead_ob hr) ?_
  refine x_aload_n (pc := 116) 0 dX3_next_116 rfl ?_
  refine x_getI (pc := 117) dX3_next_117 FC3 1 (by decide) rfl fl_X3_15 (LRead_ob hr) ?_
  obtain ⟨hr1, h⟩ := h
  obtain ⟨hr2, h⟩ := h
  obtain ⟨hA3, hB4⟩ := h
  refine x_icmp_ge (pc := 120) 240 dX3_next_120 (by decide) hr1 hr2 (fun hc => ?_) (fun hc => ?_)
  · have h := hA3 hc
    exact x_vret (pc := 240) dX3_next_240 rfl (Nat.le_refl _) (Nat.le_refl _) ⟨rfl, rfl, h⟩
  · have h := hB4 hc
    refine x_aload_n (pc := 123) 0 dX3_next_123 rfl ?_
    refine x_getP (pc := 124) dX3_next_124 FC3 0 (by decide) rfl fl_X3_9 (LRead_ob hr) (LRead_p0 hr) ?_
    refine x_aload_n (pc := 127) 0 dX3_next_127 rfl ?_
    refine x_getI (pc := 128) dX3_next_128 FC3 3 (by decide) rfl fl_X3_22 (LRead_ob hr) ?_
    obtain ⟨hv5, h⟩ := h
    obtain ⟨hv6, h⟩ := h
    refine x_bald (pc := 131) dX3_next_131 (LRead_a0 hr) hv5 hv6 (by decide) ?_
    refine x_bipush (pc := 132) dX3_next_132 rfl ?_
    obtain ⟨hr7, h⟩ := h
    obtain ⟨hA8, hB9⟩ := h
    refine x_icmp_lt (pc := 134) 240 dX3_next_134 (by decide) hr7 ⟨by decide, by decide⟩ (fun hc => ?_) (fun hc => ?_)
    · have h := hA8 hc
      exact x_vret (pc := 240) dX3_next_240 rfl (Nat.le_refl _) (Nat.le_refl _) ⟨rfl, rfl, h⟩
    · have h := hB9 hc
      refine x_aload_n (pc := 137) 0 dX3_next_137 rfl ?_
      refine x_getP (pc := 138) dX3_next_138 FC3 0 (by decide) rfl fl_X3_9 (LRead_ob hr) (LRead_p0 hr) ?_
      refine x_aload_n (pc := 141) 0 dX3_next_141 rfl ?_
      refine x_getI (pc := 142) dX3_next_142 FC3 3 (by decide) rfl fl_X3_22 (LRead_ob hr) ?_
      refine x_bald (pc := 145) dX3_next_145 (LRead_a0 hr) hv5 hv6 (by decide) ?_
      refine x_bipush (pc := 146) dX3_next_146 rfl ?_
      obtain ⟨hA10, hB11⟩ := h
      refine x_icmp_gt (pc := 148) 240 dX3_next_148 (by decide) hr7 ⟨by decide, by decide⟩ (fun hc => ?_) (fun hc => ?_)
      · have h := hA10 hc
        exact x_vret (pc := 240) dX3_next_240 rfl (Nat.le_refl _) (Nat.le_refl _) ⟨rfl, rfl, h⟩
      · have h := hB11 hc
        refine x_aload_n (pc := 151) 0 dX3_next_151 rfl ?_
        refine x_dup (pc := 152) dX3_next_152 rfl ?_
        refine x_getI (pc := 153) dX3_next_153 FC3 3 (by decide) rfl fl_X3_22 (LRead_ob hr) ?_
        refine x_iconst (pc := 156) dX3_next_156 ?_
        refine x_iadd (pc := 157) dX3_next_157 ?_
        refine x_putI (pc := 158) dX3_next_158 FC3 3 (by decide) rfl rfl fl_X3_22 (LRead_ob hr) ?_
        refine x_nmI (fun I12 eI12 => ?_)
        have h := h I12 eI12
        refine x_goto (pc := 161) 112 dX3_next_161 (by decide) ?_
        exact x_sub [0] rfl h
