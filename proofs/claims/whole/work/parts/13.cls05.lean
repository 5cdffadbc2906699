set_option maxRecDepth 100000 in
set_option maxHeartbeats 4000000 in
theorem t_X3_readHead_0 {Γ : GG} {P : MP} {I : MM} {R : MM → Prop} (hr : LRead Γ P) {σ3 κ3 n3 : Nat} (hh3 : LShop Γ P σ3 κ3 n3)
    (h : (Cl Γ m_X3_expectWord [vR 31, vR (500 + 7)] P I (rv P (fun (I1 : MM) => (Cl Γ m_X3_readNumber [vR 31, vI 1, vI 6] P I1 (ri P (fun (z2 : Int) (I3 : MM) => (∀ I4 : MM, I4 = up2 I3 σ3 0 z2 → (Cl Γ m_X3_readNumber [vR 31, vI 0, vI 1] P I4 (ri P (fun (z5 : Int) (I6 : MM) => (inR z5) ∧ ((z5 ≠ 1 → (∀ I10 : MM, I10 = up2 I6 σ3 2 0 → (Cl Γ m_X3_expect [vR 31, vI 59] P I10 (rv P (fun (I11 : MM) => R I11))))) ∧ (z5 = 1 → (∀ I12 : MM, I12 = up2 I6 σ3 2 1 → (Cl Γ m_X3_expect [vR 31, vI 59] P I12 (rv P (fun (I13 : MM) => R I13))))))))))))))))) :
    XM Γ m_X3_readHead 0 0 0 [(0, vR 31), (1, vR σ3)] [] P I (rv P R) := by
  refine x_aload_n (pc := 0) 0 dX3_readHead_0 rfl ?_
  refine x_ldcS (pc := 1) "shop" 7 dX3_readHead_1 oc_X3_99 ?_
  refine x_Vv (μ := m_X3_readHead) (pc := 3) dX3_readHead_3 h k_X3_expectWord ml_X3_101 ⟨Nat.le_of_ble_eq_true rfl, Nat.le_of_ble_eq_true rfl⟩ ⟨rfl, rfl⟩ ⟨Nat.zero_le _, Nat.zero_le _⟩ rfl (LRead_ob hr) rfl (Nat.le_of_ble_eq_true rfl) _ rfl (fun I1 h => ?_)
  refine x_aload_n (pc := 6) 1 dX3_readHead_6 rfl ?_
  refine x_aload_n (pc := 7) 0 dX3_readHead_7 rfl ?_
  refine x_iconst (pc := 8) dX3_readHead_8 ?_
  refine x_bipush (pc := 9) dX3_readHead_9 rfl ?_
  refine x_Vi (μ := m_X3_readHead) (pc := 11) dX3_readHead_11 h k_X3_readNumber ml_X3_105 ⟨Nat.le_of_ble_eq_true rfl, Nat.le_of_ble_eq_true rfl⟩ ⟨rfl, rfl⟩ ⟨Nat.zero_le _, Nat.zero_le _⟩ rfl (LRead_ob hr) rfl (Nat.le_of_ble_eq_true rfl) _ rfl (fun z2 I3 h => ?_)
  refine x_putI (pc := 14) dX3_readHead_14 FC4 0 (by decide) rfl rfl fl_X3_108 (LShop_ob hh3) ?_
  refine x_nmI (fun I4 eI4 => ?_)
  have h := h I4 eI4
  refine x_aload_n (pc := 17) 1 dX3_readHead_17 rfl ?_
  refine x_aload_n (pc := 18) 0 dX3_readHead_18 rfl ?_
  refine x_iconst (pc := 19) dX3_readHead_19 ?_
  refine x_iconst (pc := 20) dX3_readHead_20 ?_
  refine x_Vi (μ := m_X3_readHead) (pc := 21) dX3_readHead_21 h k_X3_readNumber ml_X3_105 ⟨Nat.le_of_ble_eq_true rfl, Nat.le_of_ble_eq_true rfl⟩ ⟨rfl, rfl⟩ ⟨Nat.zero_le _, Nat.zero_le _⟩ rfl (LRead_ob hr) rfl (Nat.le_of_ble_eq_true rfl) _ rfl (fun z5 I6 h => ?_)
  refine x_iconst (pc := 24) dX3_readHead_24 ?_
  obtain ⟨hr7, h⟩ := h
  obtain ⟨hA8, hB9⟩ := h
  refine x_icmp_ne (pc := 25) 32 dX3_readHead_25 (by decide) hr7 ⟨by decide, by decide⟩ (fun hc => ?_) (fun hc => ?_)
  · have h := hA8 hc
    refine x_iconst (pc := 32) dX3_readHead_32 ?_
    refine x_putZ (pc := 33) dX3_readHead_33 FC4 2 (by decide) rfl rfl (by decide) fl_X3_111 (LShop_ob hh3) ?_
    refine x_nmI (fun I10 eI10 => ?_)
    have h := h I10 eI10
    refine x_aload_n (pc := 36) 0 dX3_readHead_36 rfl ?_
    refine x_bipush (pc := 37) dX3_readHead_37 rfl ?_
    refine x_Vv (μ := m_X3_readHead) (pc := 39) dX3_readHead_39 h k_X3_expect ml_X3_80 ⟨Nat.le_of_ble_eq_true rfl, Nat.le_of_ble_eq_true rfl⟩ ⟨rfl, rfl⟩ ⟨Nat.zero_le _, Nat.zero_le _⟩ rfl (LRead_ob hr) rfl (Nat.le_of_ble_eq_true rfl) _ rfl (fun I11 h => ?_)
    exact x_vret (pc := 42) dX3_readHead_42 rfl (Nat.le_refl _) (Nat.le_refl _) ⟨rfl, rfl, h⟩
  · have h := hB9 hc
    refine x_iconst (pc := 28) dX3_readHead_28 ?_
    refine x_goto (pc := 29) 33 dX3_readHead_29 (by decide) ?_
    refine x_putZ (pc := 33) dX3_readHead_33 FC4 2 (by decide) rfl rfl (by decide) fl_X3_111 (LShop_ob hh3) ?_
    refine x_nmI (fun I12 eI12 => ?_)
    have h := h I12 eI12
    refine x_aload_n (pc := 36) 0 dX3_readHead_36 rfl ?_
    refine x_bipush (pc := 37) dX3_readHead_37 rfl ?_
    refine x_Vv (μ := m_X3_readHead) (pc := 39) dX3_readHead_39 h k_X3_expect ml_X3_80 ⟨Nat.le_of_ble_eq_true rfl, Nat.le_of_ble_eq_true rfl⟩ ⟨rfl, rfl⟩ ⟨Nat.zero_le _, Nat.zero_le _⟩ rfl (LRead_ob hr) rfl (Nat.le_of_ble_eq_true rfl) _ rfl (fun I13 h => ?_)
    exact x_vret (pc := 42) dX3_readHead_42 rfl (Nat.le_refl _) (Nat.le_refl _) ⟨rfl, rfl, h⟩
set_option maxRecDepth 100000 in
set_option maxHeartbeats 4000000 in
theorem t_X3_readJob_0 {Γ : GG} {P : MP} {I : MM} {R : MM → Prop} (hr : LRead Γ P) {σ3 κ3 n3 : Nat} (hh3 : LShop Γ P σ3 κ3 n3)
    (h : (∀ u1 : Int, u1 = (I σ3 1) → (inR u1) ∧ ((u1 < 6 → (Cl Γ m_X3_next [vR 31] P I (rv P (fun (I5 : MM) => (Cl Γ m_X3_readNumber [vR 31, vI 0, vI 999] P I5 (ri P (fun (z6 : Int) (I7 : MM) => (0 ≤ u1) ∧ (u1 < 6) ∧ (∀ I10 : MM, I10 = up2 I7 (σ3 + 4) (u1).toNat z6 → (Cl Γ m_X3_readNumber [vR 31, vI 0, vI 9999] P I10 (ri P (fun (z11 : Int) (I12 : MM) => (∀ I13 : MM, I13 = up2 I12 (σ3 + 5) (u1).toNat z11 → (Cl Γ m_X3_readNumber [vR 31, vI 0, vI 99] P I13 (ri P (fun (z14 : Int) (I15 : MM) => (∀ I16 : MM, I16 = up2 I15 (σ3 + 6) (u1).toNat z14 → (Cl Γ m_X3_readOperation [vR 31, vR σ3, vI u1] P I16 (rv P (fun (I17 : MM) => XM Γ m_X3_readJob 0 0 71 [(0, vR 31), (1, vR σ3), (2, vI u1), (3, vI 0)] [] P I17 (rv P R)))))))))))))))))))) ∧ (¬ u1 < 6 → (Cl Γ m_X3_fail [vR 31, vI (-4)] P I (rv P (fun (I18 : MM) => R I18))))))) :
    XM Γ m_X3_readJob 0 0 0 [(0, vR 31), (1, vR σ3)] [] P I (rv P R) := by
  refine x_aload_n (pc := 0) 1 dX3_readJob_0 rfl ?_
  refine x_getI (pc := 1) dX3_readJob_1 FC4 1 (by decide) rfl fl_X3_84 (LShop_ob hh3) ?_
  refine x_nmT (fun u1 eu1 => ?_)
  have h := h u1 eu1
  refine x_istore_n (pc := 4) (al' := [(0, vR 31), (1, vR σ3), (2, vI u1)]) dX3_readJob_4 rfl rfl (Nat.le_of_ble_eq_true rfl) ?_
  refine x_iload_n (pc := 5) 2 dX3_readJob_5 rfl ?_
  refine x_bipush (pc := 6) dX3_readJob_6 rfl ?_
  obtain ⟨hr2, h⟩ := h
  obtain ⟨hA3, hB4⟩ := h
  refine x_icmp_lt (pc := 8) 18 dX3_readJob_8 (by decide) hr2 ⟨by decide, by decide⟩ (fun hc => ?_) (fun hc => ?_)
  · have h := hA3 hc
    refine x_aload_n (pc := 18) 0 dX3_readJob_18 rfl ?_
    refine x_Vv (μ := m_X3_readJob) (pc := 19) dX3_readJob_19 h k_X3_next ml_X3_54 ⟨Nat.le_of_ble_eq_true rfl, Nat.le_of_ble_eq_true rfl⟩ ⟨rfl, rfl⟩ ⟨Nat.zero_le _, Nat.zero_le _⟩ rfl (LRead_ob hr) rfl (Nat.le_of_ble_eq_true rfl) _ rfl (fun I5 h => ?_)
    refine x_aload_n (pc := 22) 1 dX3_readJob_22 rfl ?_
    refine x_getP (pc := 23) dX3_readJob_23 FC4 6 (by decide) rfl fl_X3_114 (LShop_ob hh3) (LShop_p6 hh3) ?_
    refine x_iload_n (pc := 26) 2 dX3_readJob_26 rfl ?_
    refine x_aload_n (pc := 27) 0 dX3_readJob_27 rfl ?_
    refine x_iconst (pc := 28) dX3_readJob_28 ?_
    refine x_sipush (pc := 29) dX3_readJob_29 rfl ?_
    refine x_Vi (μ := m_X3_readJob) (pc := 32) dX3_readJob_32 h k_X3_readNumber ml_X3_105 ⟨Nat.le_of_ble_eq_true rfl, Nat.le_of_ble_eq_true rfl⟩ ⟨rfl, rfl⟩ ⟨Nat.zero_le _, Nat.zero_le _⟩ rfl (LRead_ob hr) rfl (Nat.le_of_ble_eq_true rfl) _ rfl (fun z6 I7 h => ?_)
    obtain ⟨hv8, h⟩ := h
    obtain ⟨hv9, h⟩ := h
    refine x_iast (pc := 35) dX3_readJob_35 (LShop_a6 hh3) hv8 hv9 (by decide) ?_
    refine x_nmI (fun I10 eI10 => ?_)
    have h := h I10 eI10
    refine x_aload_n (pc := 36) 1 dX3_readJob_36 rfl ?_
    refine x_getP (pc := 37) dX3_readJob_37 FC4 7 (by decide) rfl fl_X3_117 (LShop_ob hh3) (LShop_p7 hh3) ?_
    refine x_iload_n (pc := 40) 2 dX3_readJob_40 rfl ?_
    refine x_aload_n (pc := 41) 0 dX3_readJob_41 rfl ?_
    refine x_iconst (pc := 42) dX3_readJob_42 ?_
    refine x_sipush (pc := 43) dX3_readJob_43 rfl ?_
    refine x_Vi (μ := m_X3_readJob) (pc := 46) dX3_readJob_46 h k_X3_readNumber ml_X3_105 ⟨Nat.le_of_ble_eq_true rfl, Nat.le_of_ble_eq_true rfl⟩ ⟨rfl, rfl⟩ ⟨Nat.zero_le _, Nat.zero_le _⟩ rfl (LRead_ob hr) rfl (Nat.le_of_ble_eq_true rfl) _ rfl (fun z11 I12 h => ?_)
    refine x_iast (pc := 49) dX3_readJob_49 (LShop_a7 hh3) hv8 hv9 (by decide) ?_
    refine x_nmI (fun I13 eI13 => ?_)
    have h := h I13 eI13
    refine x_aload_n (pc := 50) 1 dX3_readJob_50 rfl ?_
    refine x_getP (pc := 51) dX3_readJob_51 FC4 8 (by decide) rfl fl_X3_120 (LShop_ob hh3) (LShop_p8 hh3) ?_
    refine x_iload_n (pc := 54) 2 dX3_readJob_54 rfl ?_
    refine x_aload_n (pc := 55) 0 dX3_readJob_55 rfl ?_
    refine x_iconst (pc := 56) dX3_readJob_56 ?_
    refine x_bipush (pc := 57) dX3_readJob_57 rfl ?_
    refine x_Vi (μ := m_X3_readJob) (pc := 59) dX3_readJob_59 h k_X3_readNumber ml_X3_105 ⟨Nat.le_of_ble_eq_true rfl, Nat.le_of_ble_eq_true rfl⟩ ⟨rfl, rfl⟩ ⟨Nat.zero_le _, Nat.zero_le _⟩ rfl (LRead_ob hr) rfl (Nat.le_of_ble_eq_true rfl) _ rfl (fun z14 I15 h => ?_)
    refine x_iast (pc := 62) dX3_readJob_62 (LShop_a8 hh3) hv8 hv9 (by decide) ?_
    refine x_nmI (fun I16 eI16 => ?_)
    have h := h I16 eI16
    refine x_aload_n (pc := 63) 0 dX3_readJob_63 rfl ?_
    refine x_aload_n (pc := 64) 1 dX3_readJob_64 rfl ?_
    refine x_iload_n (pc := 65) 2 dX3_readJob_65 rfl ?_
    refine x_Vv (μ := m_X3_readJob) (pc := 66) dX3_readJob_66 h k_X3_readOperation ml_X3_123 ⟨Nat.le_of_ble_eq_true rfl, Nat.le_of_ble_eq_true rfl⟩ ⟨rfl, rfl⟩ ⟨Nat.zero_le _, Nat.zero_le _⟩ rfl (LRead_ob hr) rfl (Nat.le_of_ble_eq_true rfl) _ rfl (fun I17 h => ?_)
    refine x_iconst (pc := 69) dX3_readJob_69 ?_
    refine x_istore_n (pc := 70) (al' := [(0, vR 31), (1, vR σ3), (2, vI u1), (3, vI 0)]) dX3_readJob_70 rfl rfl (Nat.le_of_ble_eq_true rfl) ?_
    exact x_sub [0, 1, 2, 3] rfl h
  · have h := hB4 hc
    refine x_aload_n (pc := 11) 0 dX3_readJob_11 rfl ?_
    refine x_bipush (pc := 12) dX3_readJob_12 rfl ?_
    refine x_Vv (μ := m_X3_readJob) (pc := 14) dX3_readJob_14 h k_X3_fail ml_X3_89 ⟨Nat.le_of_ble_eq_true rfl, Nat.le_of_ble_eq_true rfl⟩ ⟨rfl, rfl⟩ ⟨Nat.zero_le _, Nat.zero_le _⟩ rfl (LRead_ob hr) rfl (Nat.le_of_ble_eq_true rfl) _ rfl (fun I18 h => ?_)
    exact x_vret (pc := 17) dX3_readJob_17 rfl (Nat.le_refl _) (Nat.le_refl _) ⟨rfl, rfl, h⟩
set_option maxRecDepth 100000 in
set_option maxHeartbeats 4000000 in
theorem t_X3_readJob_71 {Γ : GG} {P : MP} {I : MM} {R : MM → Prop} {x2 x3 : Int} (hr : LRead Γ P) {σ3 κ3 n3 : Nat} (hh3 : LShop Γ P σ3 κ3 n3)
    (h : (inR x3) ∧ ((6 ≤ x3 → (∀ I4 : MM, I4 = up2 I σ3 1 (x2 + 1) → R I4)) ∧ (¬ 6 ≤ x3 → (Cl Γ m_X3_isWord [vR 31, vR (500 + 5)] P I (ri P (fun (z5 : Int) (I6 : MM) => (inR z5) ∧ ((z5 = 0 → (∀ I10 : MM, I10 = up2 I6 σ3 1 (x2 + 1) → R I10)) ∧ (¬ z5 = 0 → (Cl Γ m_X3_readOperation [vR 31, vR σ3, vI x2] P I6 (rv P (fun (I11 : MM) => XM Γ m_X3_readJob 0 0 71 [(0, vR 31), (1, vR σ3), (2, vI x2), (3, vI (x3 + 1))] [] P I11 (rv P R)))))))))))) :
    XM Γ m_X3_readJob 0 0 71 [(0, vR 31), (1, vR σ3), (2, vI x2), (3, vI x3)] [] P I (rv P R) := by
  refine x_iload_n (pc := 71) 3 dX3_readJob_71 rfl ?_
  refine x_bipush (pc := 72) dX3_readJob_72 rfl ?_
  obtain ⟨hr1, h⟩ := h
  obtain ⟨hA2, hB3⟩ := h
  refine x_icmp_ge (pc := 74) 98 dX3_readJob_74 (by decide) hr1 ⟨by decide, by decide⟩ (fun hc => ?_) (fun hc => ?_)
  · have h := hA2 hc
    refine x_aload_n (pc := 98) 1 dX3_readJob_98 rfl ?_
    refine x_iload_n (pc := 99) 2 dX3_readJob_99 rfl ?_
    refine x_iconst (pc := 100) dX3_readJob_100 ?_
    refine x_iadd (pc := 101) dX3_readJob_101 ?_
    refine x_putI (pc := 102) dX3_readJob_102 FC4 1 (by decide) rfl rfl fl_X3_84 (LShop_ob hh3) ?_
    refine x_nmI (fun I4 eI4 => ?_)
    have h := h I4 eI4
    exact x_vret (pc := 105) dX3_readJob_105 rfl (Nat.le_refl _) (Nat.le_refl _) ⟨rfl, rfl, h⟩
  · have h := hB3 hc
    refine x_aload_n (pc := 77) 0 dX3_readJob_77 rfl ?_
    refine x_ldcS (pc := 78) "op" 5 dX3_readJob_78 oc_X3_127 ?_
    refine x_Vi (μ := m_X3_readJob) (pc := 80) dX3_readJob_80 h k_X3_isWord ml_X3_63 ⟨Nat.le_of_ble_eq_true rfl, Nat.le_of_ble_eq_true rfl⟩ ⟨rfl, rfl⟩ ⟨Nat.zero_le _, Nat.zero_le _⟩ rfl (LRead_ob hr) rfl (Nat.le_of_ble_eq_true rfl) _ rfl (fun z5 I6 h => ?_)
    obtain ⟨hr7, h⟩ := h
    obtain ⟨hA8, hB9⟩ := h
    refine x_if_eq (pc := 83) 98 dX3_readJob_83 (by decide) hr7 (fun hc => ?_) (fun hc => ?_)
    · have h := hA8 hc
      refine x_aload_n (pc := 98) 1 dX3_readJob_98 rfl ?_
      refine x_iload_n (pc := 99) 2 dX3_readJob_99 rfl ?_
      refine x_iconst (pc := 100) dX3_readJob_100 ?_
      refine x_iadd (pc := 101) dX3_readJob_101 ?_
      refine x_putI (pc := 102) dX3_readJob_102 FC4 1 (by decide) rfl rfl fl_X3_84 (LShop_ob hh3) ?_
      refine x_nmI (fun I10 eI10 => ?_)
      have h := h I10 eI10
      exact x_vret (pc := 105) dX3_readJob_105 rfl (Nat.le_refl _) (Nat.le_refl _) ⟨rfl, rfl, h⟩
    · have h := hB9 hc
      refine x_aload_n (pc := 86) 0 dX3_readJob_86 rfl ?_
      refine x_aload_n (pc := 87) 1 dX3_readJob_87 rfl ?_
      refine x_iload_n (pc := 88) 2 dX3_readJob_88 rfl ?_
      refine x_Vv (μ := m_X3_readJob) (pc := 89) dX3_readJob_89 h k_X3_readOperation ml_X3_123 ⟨Nat.le_of_ble_eq_true rfl, Nat.le_of_ble_eq_true rfl⟩ ⟨rfl, rfl⟩ ⟨Nat.zero_le _, Nat.zero_le _⟩ rfl (LRead_ob hr) rfl (Nat.le_of_ble_eq_true rfl) _ rfl (fun I11 h => ?_)
      refine x_iinc (pc := 92) (al' := [(0, vR 31), (1, vR σ3), (2, vI x2), (3, vI (x3 + 1))]) 3 dX3_readJob_92 rfl rfl rfl (Nat.le_of_ble_eq_true rfl) ?_
      refine x_goto (pc := 95) 71 dX3_readJob_95 (by decide) ?_
      exact x_sub [0, 1, 2, 3] rfl h
set_option maxRecDepth 100000 in
set_option maxHeartbeats 4000000 in
theorem t_X3_readOperation_0 {Γ : GG} {P : MP} {I : MM} {R : MM → Prop} {x2 : Int} (hr : LRead Γ P) {σ3 κ3 n3 : Nat} (hh3 : LShop Γ P σ3 κ3 n3)
    (h : (0 ≤ x2) ∧ (x2 < 6) ∧ (∀ u3 : Int, u3 = (I (σ3 + 7) (x2).toNat) → (inR u3) ∧ ((u3 < 6 → (Cl Γ m_X3_expectWord [vR 31, vR (500 + 5)] P I (rv P (fun (I7 : MM) => (inR (I7 31 4)) ∧ (((I7 31 4) ≠ (-1001) → (Cl Γ m_X3_readNumber [vR 31, vI 0, vI ((I7 σ3 0) - 1)] P I7 (ri P (fun (z11 : Int) (I12 : MM) => (Cl Γ m_X5_idOf [vI x2, vI u3] P I12 (ri P (fun (z13 : Int) (I14 : MM) => (0 ≤ z13) ∧ (z13 < 36) ∧ (∀ I17 : MM, I17 = up2 I14 (σ3 + 8) (z13).toNat z11 → (Cl Γ m_X5_idOf [vI x2, vI u3] P I17 (ri P (fun (z18 : Int) (I19 : MM) => (Cl Γ m_X3_readNumber [vR 31, vI 1, vI 99] P I19 (ri P (fun (z20 : Int) (I21 : MM) => (0 ≤ z18) ∧ (z18 < 36) ∧ (∀ I24 : MM, I24 = up2 I21 (σ3 + 9) (z18).toNat z20 → (∀ I25 : MM, I25 = up2 I24 (σ3 + 7) (x2).toNat (u3 + 1) → (0 ≤ z11) ∧ (z11 < 6) ∧ (∀ I28 : MM, I28 = up2 I25 (σ3 + 3) (z11).toNat ((I25 (σ3 + 3) (z11).toNat) + 1) → R I28))))))))))))))))) ∧ ((I7 31 4) = (-1001) → (Cl Γ m_X3_valueOfToken [vR 31] P I7 (ri P (fun (z29 : Int) (I30 : MM) => (Cl Γ m_X3_needsAlready [vR 31, vR σ3, vI x2, vI z29] P I30 (ri P (fun (z31 : Int) (I32 : MM) => (inR z31) ∧ ((z31 = 0 → (Cl Γ m_X3_readNumber [vR 31, vI 0, vI ((I32 σ3 0) - 1)] P I32 (ri P (fun (z36 : Int) (I37 : MM) => (Cl Γ m_X5_idOf [vI x2, vI u3] P I37 (ri P (fun (z38 : Int) (I39 : MM) => (0 ≤ z38) ∧ (z38 < 36) ∧ (∀ I42 : MM, I42 = up2 I39 (σ3 + 8) (z38).toNat z36 → (Cl Γ m_X5_idOf [vI x2, vI u3] P I42 (ri P (fun (z43 : Int) (I44 : MM) => (Cl Γ m_X3_readNumber [vR 31, vI 1, vI 99] P I44 (ri P (fun (z45 : Int) (I46 : MM) => (0 ≤ z43) ∧ (z43 < 36) ∧ (∀ I49 : MM, I49 = up2 I46 (σ3 + 9) (z43).toNat z45 → (∀ I50 : MM, I50 = up2 I49 (σ3 + 7) (x2).toNat (u3 + 1) → (0 ≤ z36) ∧ (z36 < 6) ∧ (∀ I53 : MM, I53 = up2 I50 (σ3 + 3) (z36).toNat ((I50 (σ3 + 3) (z36).toNat) + 1) → R I53))))))))))))))))) ∧ (¬ z31 = 0 → (Cl Γ m_X3_fail [vR 31, vI (-3)] P I32 (rv P (fun (I54 : MM) => (Cl Γ m_X3_readNumber [vR 31, vI 0, vI ((I54 σ3 0) - 1)] P I54 (ri P (fun (z55 : Int) (I56 : MM) => (Cl Γ m_X5_idOf [vI x2, vI u3] P I56 (ri P (fun (z57 : Int) (I58 : MM) => (0 ≤ z57) ∧ (z57 < 36) ∧ (∀ I61 : MM, I61 = up2 I58 (σ3 + 8) (z57).toNat z55 → (Cl Γ m_X5_idOf [vI x2, vI u3] P I61 (ri P (fun (z62 : Int) (I63 : MM) => (Cl Γ m_X3_readNumber [vR 31, vI 1, vI 99] P I63 (ri P (fun (z64 : Int) (I65 : MM) => (0 ≤ z62) ∧ (z62 < 36) ∧ (∀ I68 : MM, I68 = up2 I65 (σ3 + 9) (z62).toNat z64 → (∀ I69 : MM, I69 = up2 I68 (σ3 + 7) (x2).toNat (u3 + 1) → (0 ≤ z55) ∧ (z55 < 6) ∧ (∀ I72 : MM, I72 = up2 I69 (σ3 + 3) (z55).toNat ((I69 (σ3 + 3) (z55).toNat) + 1) → R I72))))))))))))))))))))))))))))))))) ∧ (¬ u3 < 6 → (Cl Γ m_X3_fail [vR 31, vI (-4)] P I (rv P (fun (I73 : MM) => R I73))))))) :
    XM Γ m_X3_readOperation 0 0 0 [(0, vR 31), (1, vR σ3), (2, vI x2)] [] P I (rv P R) := by
  refine x_aload_n (pc := 0) 1 dX3_readOperation_0 rfl ?_
  refine x_getP (pc := 1) dX3_readOperation_1 FC4 9 (by decide) rfl fl_X3_129 (LShop_ob hh3) (LShop_p9 hh3) ?_
  refine x_iload_n (pc := 4) 2 dX3_readOperation_4 rfl ?_
  obtain ⟨hv1, h⟩ := h
  obtain ⟨hv2, h⟩ := h
  refine x_iald (pc := 5) dX3_readOperation_5 (LShop_a9 hh3) hv1 hv2 (by decide) ?_
  refine x_nmT (fun u3 eu3 => ?_)
  have h := h u3 eu3
  refine x_istore_n (pc := 6) (al' := [(0, vR 31), (1, vR σ3), (2, vI x2), (3, vI u3)]) dX3_readOperation_6 rfl rfl (Nat.le_of_ble_eq_true rfl) ?_
  refine x_iload_n (pc := 7) 3 dX3_readOperation_7 rfl ?_
  refine x_bipush (pc := 8) dX3_readOperation_8 rfl ?_
  obtain ⟨hr4, h⟩ := h
  obtain ⟨hA5, hB6⟩ := h
  refine x_icmp_lt (pc := 10) 20 dX3_readOperation_10 (by decide) hr4 ⟨by decide, by decide⟩ (fun hc => ?_) (fun hc => ?_)
  · have h := hA5 hc
    refine x_aload_n (pc := 20) 0 dX3_readOperation_20 rfl ?_
    refine x_ldcS (pc := 21) "op" 5 dX3_readOperation_21 oc_X3_127 ?_
    refine x_Vv (μ := m_X3_readOperation) (pc := 23) dX3_readOperation_23 h k_X3_expectWord ml_X3_101 ⟨Nat.le_of_ble_eq_true rfl, Nat.le_of_ble_eq_true rfl⟩ ⟨rfl, rfl⟩ ⟨Nat.zero_le _, Nat.zero_le _⟩ rfl (LRead_ob hr) rfl (Nat.le_of_ble_eq_true rfl) _ rfl (fun I7 h => ?_)
    refine x_aload_n (pc := 26) 0 dX3_readOperation_26 rfl ?_
    refine x_getI (pc := 27) dX3_readOperation_27 FC3 4 (by decide) rfl fl_X3_25 (LRead_ob hr) ?_
    refine x_sipush (pc := 30) dX3_readOperation_30 rfl ?_
    obtain ⟨hr8, h⟩ := h
    obtain ⟨hA9, hB10⟩ := h
    refine x_icmp_ne (pc := 33) 55 dX3_readOperation_33 (by decide) hr8 ⟨by decide, by decide⟩ (fun hc => ?_) (fun hc => ?_)
    · have h := hA9 hc
      refine x_aload_n (pc := 55) 0 dX3_readOperation_55 rfl ?_
      refine x_iconst (pc := 56) dX3_readOperation_56 ?_
      refine x_aload_n (pc := 57) 1 dX3_readOperation_57 rfl ?_
      refine x_getI (pc := 58) dX3_readOperation_58 FC4 0 (by decide) rfl fl_X3_108 (LShop_ob hh3) ?_
      refine x_iconst (pc := 61) dX3_readOperation_61 ?_
      refine x_isub (pc := 62) dX3_readOperation_62 ?_
      refine x_Vi (μ := m_X3_readOperation) (pc := 63) dX3_readOperation_63 h k_X3_readNumber ml_X3_105 ⟨Nat.le_of_ble_eq_true rfl, Nat.le_of_ble_eq_true rfl⟩ ⟨rfl, rfl⟩ ⟨Nat.zero_le _, Nat.zero_le _⟩ rfl (LRead_ob hr) rfl (Nat.le_of_ble_eq_true rfl) _ rfl (fun z11 I12 h => ?_)
      refine x_istore (pc := 66) (al' := [(0, vR 31), (1, vR σ3), (2, vI x2), (3, vI u3), (4, vI z11)]) dX3_readOperation_66 rfl rfl (Nat.le_of_ble_eq_true rfl) ?_
      refine x_aload_n (pc := 68) 1 dX3_readOperation_68 rfl ?_
      refine x_getP (pc := 69) dX3_readOperation_69 FC4 10 (by decide) rfl fl_X3_140 (LShop_ob hh3) (LShop_p10 hh3) ?_
      refine x_iload_n (pc := 72) 2 dX3_readOperation_72 rfl ?_
      refine x_iload_n (pc := 73) 3 dX3_readOperation_73 rfl ?_
      refine x_Ni (μ := m_X3_readOperation) (pc := 74) "BlockingShop" dX3_readOperation_74 h k_X5_idOf (by decide +kernel) ⟨Nat.le_of_ble_eq_true rfl, Nat.le_of_ble_eq_true rfl⟩ ⟨rfl, rfl⟩ ⟨Nat.zero_le _, Nat.zero_le _⟩ rfl (Nat.le_of_ble_eq_true rfl) _ rfl (fun z13 I14 h => ?_)
      refine x_iload (pc := 77) 4 dX3_readOperation_77 rfl ?_
      obtain ⟨hv15, h⟩ := h
      obtain ⟨hv16, h⟩ := h
      refine x_iast (pc := 79) dX3_readOperation_79 (LShop_a10 hh3) hv15 hv16 (by decide) ?_
      refine x_nmI (fun I17 eI17 => ?_)
      have h := h I17 eI17
      refine x_aload_n (pc := 80) 1 dX3_readOperation_80 rfl ?_
      refine x_getP (pc := 81) dX3_readOperation_81 FC4 11 (by decide) rfl fl_X3_146 (LShop_ob hh3) (LShop_p11 hh3) ?_
      refine x_iload_n (pc := 84) 2 dX3_readOperation_84 rfl ?_
      refine x_iload_n (pc := 85) 3 dX3_readOperation_85 rfl ?_
      refine x_Ni (μ := m_X3_readOperation) (pc := 86) "BlockingShop" dX3_readOperation_86 h k_X5_idOf (by decide +kernel) ⟨Nat.le_of_ble_eq_true rfl, Nat.le_of_ble_eq_true rfl⟩ ⟨rfl, rfl⟩ ⟨Nat.zero_le _, Nat.zero_le _⟩ rfl (Nat.le_of_ble_eq_true rfl) _ rfl (fun z18 I19 h => ?_)
      refine x_aload_n (pc := 89) 0 dX3_readOperation_89 rfl ?_
      refine x_iconst (pc := 90) dX3_readOperation_90 ?_
      refine x_bipush (pc := 91) dX3_readOperation_91 rfl ?_
      refine x_Vi (μ := m_X3_readOperation) (pc := 93) dX3_readOperation_93 h k_X3_readNumber ml_X3_105 ⟨Nat.le_of_ble_eq_true rfl, Nat.le_of_ble_eq_true rfl⟩ ⟨rfl, rfl⟩ ⟨Nat.zero_le _, Nat.zero_le _⟩ rfl (LRead_ob hr) rfl (Nat.le_of_ble_eq_true rfl) _ rfl (fun z20 I21 h => ?_)
      obtain ⟨hv22, h⟩ := h
      obtain ⟨hv23, h⟩ := h
      refine x_iast (pc := 96) dX3_readOperation_96 (LShop_a11 hh3) hv22 hv23 (by decide) ?_
      refine x_nmI (fun I24 eI24 => ?_)
      have h := h I24 eI24
      refine x_aload_n (pc := 97) 1 dX3_readOperation_97 rfl ?_
      refine x_getP (pc := 98) dX3_readOperation_98 FC4 9 (by decide) rfl fl_X3_129 (LShop_ob hh3) (LShop_p9 hh3) ?_
      refine x_iload_n (pc := 101) 2 dX3_readOperation_101 rfl ?_
      refine x_iload_n (pc := 102) 3 dX3_readOperation_102 rfl ?_
      refine x_iconst (pc := 103) dX3_readOperation_103 ?_
      refine x_iadd (pc := 104) dX3_readOperation_104 ?_
      refine x_iast (pc := 105) dX3_readOperation_105 (LShop_a9 hh3) hv1 hv2 (by decide) ?_
      refine x_nmI (fun I25 eI25 => ?_)
      have h := h I25 eI25
      refine x_aload_n (pc := 106) 1 dX3_readOperation_106 rfl ?_
      refine x_getP (pc := 107) dX3_readOperation_107 FC4 5 (by decide) rfl fl_X3_149 (LShop_ob hh3) (LShop_p5 hh3) ?_
      refine x_iload (pc := 110) 4 dX3_readOperation_110 rfl ?_
      refine x_dup2 (pc := 112) dX3_readOperation_112 rfl rfl ?_
      obtain ⟨hv26, h⟩ := h
      obtain ⟨hv27, h⟩ := h
      refine x_iald (pc := 113) dX3_readOperation_113 (LShop_a5 hh3) hv26 hv27 (by decide) ?_
      refine x_iconst (pc := 114) dX3_readOperation_114 ?_
      refine x_iadd (pc := 115) dX3_readOperation_115 ?_
      refine x_iast (pc := 116) dX3_readOperation_116 (LShop_a5 hh3) hv26 hv27 (by decide) ?_
      refine x_nmI (fun I28 eI28 => ?_)
      have h := h I28 eI28
      exact x_vret (pc := 117) dX3_readOperation_117 rfl (Nat.le_refl _) (Nat.le_refl _) ⟨rfl, rfl, h⟩
    · have h := hB10 hc
      refine x_aload_n (pc := 36) 0 dX3_readOperation_36 rfl ?_
      refine x_aload_n (pc := 37) 1 dX3_readOperation_37 rfl ?_
      refine x_iload_n (pc := 38) 2 dX3_readOperation_38 rfl ?_
      refine x_aload_n (pc := 39) 0 dX3_readOperation_39 rfl ?_
      refine x_Vi (μ := m_X3_readOperation) (pc := 40) dX3_readOperation_40 h k_X3_valueOfToken ml_X3_132 ⟨Nat.le_of_ble_eq_true rfl, Nat.le_of_ble_eq_true rfl⟩ ⟨rfl, rfl⟩ ⟨Nat.zero_le _, Nat.zero_le _⟩ rfl (LRead_ob hr) rfl (Nat.le_of_ble_eq_true rfl) _ rfl (fun z29 I30 h => ?_)
      refine x_Vi (μ := m_X3_readOperation) (pc := 43) dX3_readOperation_43 h k_X3_needsAlready ml_X3_136 ⟨Nat.le_of_ble_eq_true rfl, Nat.le_of_ble_eq_true rfl⟩ ⟨rfl, rfl⟩ ⟨Nat.zero_le _, Nat.zero_le _⟩ rfl (LRead_ob hr) rfl (Nat.le_of_ble_eq_true rfl) _ rfl (fun z31 I32 h => ?_)
      obtain ⟨hr33, h⟩ := h
      obtain ⟨hA34, hB35⟩ := h
      refine x_if_eq (pc := 46) 55 dX3_readOperation_46 (by decide) hr33 (fun hc => ?_) (fun hc => ?_)
      · have h := hA34 hc
        refine x_aload_n (pc := 55) 0 dX3_readOperation_55 rfl ?_
        refine x_iconst (pc := 56) dX3_readOperation_56 ?_
        refine x_aload_n (pc := 57) 1 dX3_readOperation_57 rfl ?_
        refine x_getI (pc := 58) dX3_readOperation_58 FC4 0 (by decide) rfl fl_X3_108 (LShop_ob hh3) ?_
        refine x_iconst (pc := 61) dX3_readOperation_61 ?_
        refine x_isub (pc := 62) dX3_readOperation_62 ?_
        refine x_Vi (μ := m_X3_readOperation) (pc := 63) dX3_readOperation_63 h k_X3_readNumber ml_X3_105 ⟨Nat.le_of_ble_eq_true rfl, Nat.le_of_ble_eq_true rfl⟩ ⟨rfl, rfl⟩ ⟨Nat.zero_le _, Nat.zero_le _⟩ rfl (LRead_ob hr) rfl (Nat.le_of_ble_eq_true rfl) _ rfl (fun z36 I37 h => ?_)
        refine x_istore (pc := 66) (al' := [(0, vR 31), (1, vR σ3), (2, vI x2), (3, vI u3), (4, vI z36)]) dX3_readOperation_66 rfl rfl (Nat.le_of_ble_eq_true rfl) ?_
        refine x_aload_n (pc := 68) 1 dX3_readOperation_68 rfl ?_
        refine x_getP (pc := 69) dX3_readOperation_69 FC4 10 (by decide) rfl fl_X3_140 (LShop_ob hh3) (LShop_p10 hh3) ?_
        refine x_iload_n (pc := 72) 2 dX3_readOperation_72 rfl ?_
        refine x_iload_n (pc := 73) 3 dX3_readOperation_73 rfl ?_
        refine x_Ni (μ := m_X3_readOperation) (pc := 74) "BlockingShop" dX3_readOperation_74 h k_X5_idOf (by decide +kernel) ⟨Nat.le_of_ble_eq_true rfl, Nat.le_of_ble_eq_true rfl⟩ ⟨rfl, rfl⟩ ⟨Nat.zero_le _, Nat.zero_le _⟩ rfl (Nat.le_of_ble_eq_true rfl) _ rfl (fun z38 I39 h => ?_)
        refine x_iload (pc := 77) 4 dX3_readOperation_77 rfl ?_
        obtain ⟨hv40, h⟩ := h
        obtain ⟨hv41, h⟩ := h
        refine x_iast (pc := 79) dX3_readOperation_79 (LShop_a10 hh3) hv40 hv41 (by decide) ?_
        refine x_nmI (fun I42 eI42 => ?_)
        have h := h I42 eI42
        refine x_aload_n (pc := 80) 1 dX3_readOperation_80 rfl ?_
        refine x_getP (pc := 81) dX3_readOperation_81 FC4 11 (by decide) rfl fl_X3_146 (LShop_ob hh3) (LShop_p11 hh3) ?_
        refine x_iload_n (pc := 84) 2 dX3_readOperation_84 rfl ?_
        refine x_iload_n (pc := 85) 3 dX3_readOperation_85 rfl ?_
        refine x_Ni (μ := m_X3_readOperation) (pc := 86) "BlockingShop" dX3_readOperation_86 h k_X5_idOf (by decide +kernel) ⟨Nat.le_of_ble_eq_true rfl, Nat.le_of_ble_eq_true rfl⟩ ⟨rfl, rfl⟩ ⟨Nat.zero_le _, Nat.zero_le _⟩ rfl (Nat.le_of_ble_eq_true rfl) _ rfl (fun z43 I44 h => ?_)
        refine x_aload_n (pc := 89) 0 dX3_readOperation_89 rfl ?_
        refine x_iconst (pc := 90) dX3_readOperation_90 ?_
        refine x_bipush (pc := 91) dX3_readOperation_91 rfl ?_
        refine x_Vi (μ := m_X3_readOperation) (pc := 93) dX3_readOperation_93 h k_X3_readNumber ml_X3_105 ⟨Nat.le_of_ble_eq_true rfl, Nat.le_of_ble_eq_true rfl⟩ ⟨rfl, rfl⟩ ⟨Nat.zero_le _, Nat.zero_le _⟩ rfl (LRead_ob hr) rfl (Nat.le_of_ble_eq_true rfl) _ rfl (fun z45 I46 h => ?_)
        obtain ⟨hv47, h⟩ := h
        obtain ⟨hv48, h⟩ := h
        refine x_iast (pc := 96) dX3_readOperation_96 (LShop_a11 hh3) hv47 hv48 (by decide) ?_
        refine x_nmI (fun I49 eI49 => ?_)
        have h := h I49 eI49
        refine x_aload_n (pc := 97) 1 dX3_readOperation_97 rfl ?_
        refine x_getP (pc := 98) dX3_readOperation_98 FC4 9 (by decide) rfl fl_X3_129 (LShop_ob hh3) (LShop_p9 hh3) ?_
        refine x_iload_n (pc := 101) 2 dX3_readOperation_101 rfl ?_
        refine x_iload_n (pc := 102) 3 dX3_readOperation_102 rfl ?_
        refine x_iconst (pc := 103) dX3_readOperation_103 ?_
        refine x_iadd (pc := 104) dX3_readOperation_104 ?_
        refine x_iast (pc := 105) dX3_readOperation_105 (LShop_a9 hh3) hv1 hv2 (by decide) ?_
        refine x_nmI (fun I50 eI50 => ?_)
        have h := h I50 eI50
        refine x_aload_n (pc := 106) 1 dX3_readOperation_106 rfl ?_
        refine x_getP (pc := 107) dX3_readOperation_107 FC4 5 (by decide) rfl fl_X3_149 (LShop_ob hh3) (LShop_p5 hh3) ?_
        refine x_iload (pc := 110) 4 dX3_readOperation_110 rfl ?_
        refine x_dup2 (pc := 112) dX3_readOperation_112 rfl rfl ?_
        obtain ⟨hv51, h⟩ := h
        obtain ⟨hv52, h⟩ := h
        refine x_iald (pc := 113) dX3_readOperation_113 (LShop_a5 hh3) hv51 hv52 (by decide) ?_
        refine x_iconst (pc := 114) dX3_readOperation_114 ?_
        refine x_iadd (pc := 115) dX3_readOperation_115 ?_
        refine x_iast (pc := 116) dX3_readOperation_116 (LShop_a5 hh3) hv51 hv52 (by decide) ?_
        refine x_nmI (fun I53 eI53 => ?_)
        have h := h I53 eI53
        exact x_vret (pc := 117) dX3_readOperation_117 rfl (Nat.le_refl _) (Nat.le_refl _) ⟨rfl, rfl, h⟩
      · have h := hB35 hc
        refine x_aload_n (pc := 49) 0 dX3_readOperation_49 rfl ?_
        refine x_bipush (pc := 50) dX3_readOperation_50 rfl ?_
        refine x_Vv (μ := m_X3_readOperation) (pc := 52) dX3_readOperation_52 h k_X3_fail ml_X3_89 ⟨Nat.le_of_ble_eq_true rfl, Nat.le_of_ble_eq_true rfl⟩ ⟨rfl, rfl⟩ ⟨Nat.zero_le _, Nat.zero_le _⟩ rfl (LRead_ob hr) rfl (Nat.le_of_ble_eq_true rfl) _ rfl (fun I54 h => ?_)
        refine x_aload_n (pc := 55) 0 dX3_readOperation_55 rfl ?_
        refine x_iconst (pc := 56) dX3_readOperation_56 ?_
        refine x_aload_n (pc := 57) 1 dX3_readOperation_57 rfl ?_
        refine x_getI (pc := 58) dX3_readOperation_58 FC4 0 (by decide) rfl fl_X3_108 (LShop_ob hh3) ?_
        refine x_iconst (pc := 61) dX3_readOperation_61 ?_
        refine x_isub (pc := 62) dX3_readOperation_62 ?_
        refine x_Vi (μ := m_X3_readOperation) (pc := 63) dX3_readOperation_63 h k_X3_readNumber ml_X3_105 ⟨Nat.le_of_ble_eq_true rfl, Nat.le_of_ble_eq_true rfl⟩ ⟨rfl, rfl⟩ ⟨Nat.zero_le _, Nat.zero_le _⟩ rfl (LRead_ob hr) rfl (Nat.le_of_ble_eq_true rfl) _ rfl (fun z55 I56 h => ?_)
        refine x_istore (pc := 66) (al' := [(0, vR 31), (1, vR σ3), (2, vI x2), (3, vI u3), (4, vI z55)]) dX3_readOperation_66 rfl rfl (Nat.le_of_ble_eq_true rfl) ?_
        refine x_aload_n (pc := 68) 1 dX3_readOperation_68 rfl ?_
        refine x_getP (pc := 69) dX3_readOperation_69 FC4 10 (by decide) rfl fl_X3_140 (LShop_ob hh3) (LShop_p10 hh3) ?_
        refine x_iload_n (pc := 72) 2 dX3_readOperation_72 rfl ?_
        refine x_iload_n (pc := 73) 3 dX3_readOperation_73 rfl ?_
        refine x_Ni (μ := m_X3_readOperation) (pc := 74) "BlockingShop" dX3_readOperation_74 h k_X5_idOf (by decide +kernel) ⟨Nat.le_of_ble_eq_true rfl, Nat.le_of_ble_eq_true rfl⟩ ⟨rfl, rfl⟩ ⟨Nat.zero_le _, Nat.zero_le _⟩ rfl (Nat.le_of_ble_eq_true rfl) _ rfl (fun z57 I58 h => ?_)
        refine x_iload (pc := 77) 4 dX3_readOperation_77 rfl ?_
        obtain ⟨hv59, h⟩ := h
        obtain ⟨hv60, h⟩ := h
        refine x_iast (pc := 79) dX3_readOperation_79 (LShop_a10 hh3) hv59 hv60 (by decide) ?_
        refine x_nmI (fun I61 eI61 => ?_)
        have h := h I61 eI61
        refine x_aload_n (pc := 80) 1 dX3_readOperation_80 rfl ?_
        refine x_getP (pc := 81) dX3_readOperation_81 FC4 11 (by decide) rfl fl_X3_146 (LShop_ob hh3) (LShop_p11 hh3) ?_
        refine x_iload_n (pc := 84) 2 dX3_readOperation_84 rfl ?_
        refine x_iload_n (pc := 85) 3 dX3_readOperation_85 rfl ?_
        refine x_Ni (μ := m_X3_readOperation) (pc := 86) "BlockingShop" dX3_readOperation_86 h k_X5_idOf (by decide +kernel) ⟨Nat.le_of_ble_eq_true rfl, Nat.le_of_ble_eq_true rfl⟩ ⟨rfl, rfl⟩ ⟨Nat.zero_le _, Nat.zero_le _⟩ rfl (Nat.le_of_ble_eq_true rfl) _ rfl (fun z62 I63 h => ?_)
        refine x_aload_n (pc := 89) 0 dX3_readOperation_89 rfl ?_
        refine x_iconst (pc := 90) dX3_readOperation_90 ?_
        refine x_bipush (pc := 91) dX3_readOperation_91 rfl ?_
        refine x_Vi (μ := m_X3_readOperation) (pc := 93) dX3_readOperation_93 h k_X3_readNumber ml_X3_105 ⟨Nat.le_of_ble_eq_true rfl, Nat.le_of_ble_eq_true rfl⟩ ⟨rfl, rfl⟩ ⟨Nat.zero_le _, Nat.zero_le _⟩ rfl (LRead_ob hr) rfl (Nat.le_of_ble_eq_true rfl) _ rfl (fun z64 I65 h => ?_)
        obtain ⟨hv66, h⟩ := h
        obtain ⟨hv67, h⟩ := h
        refine x_iast (pc := 96) dX3_readOperation_96 (LShop_a11 hh3) hv66 hv67 (by decide) ?_
        refine x_nmI (fun I68 eI68 => ?_)
        have h := h I68 eI68
        refine x_aload_n (pc := 97) 1 dX3_readOperation_97 rfl ?_
        refine x_getP (pc := 98) dX3_readOperation_98 FC4 9 (by decide) rfl fl_X3_129 (LShop_ob hh3) (LShop_p9 hh3) ?_
        refine x_iload_n (pc := 101) 2 dX3_readOperation_101 rfl ?_
        refine x_iload_n (pc := 102) 3 dX3_readOperation_102 rfl ?_
        refine x_iconst (pc := 103) dX3_readOperation_103 ?_
        refine x_iadd (pc := 104) dX3_readOperation_104 ?_
        refine x_iast (pc := 105) dX3_readOperation_105 (LShop_a9 hh3) hv1 hv2 (by decide) ?_
        refine x_nmI (fun I69 eI69 => ?_)
        have h := h I69 eI69
        refine x_aload_n (pc := 106) 1 dX3_readOperation_106 rfl ?_
        refine x_getP (pc := 107) dX3_readOperation_107 FC4 5 (by decide) rfl fl_X3_149 (LShop_ob hh3) (LShop_p5 hh3) ?_
        refine x_iload (pc := 110) 4 dX3_readOperation_110 rfl ?_
        refine x_dup2 (pc := 112) dX3_readOperation_112 rfl rfl ?_
        obtain ⟨hv70, h⟩ := h
        obtain ⟨hv71, h⟩ := h
        refine x_iald (pc := 113) dX3_readOperation_113 (LShop_a5 hh3) hv70 hv71 (by decide) ?_
        refine x_iconst (pc := 114) dX3_readOperation_114 ?_
        refine x_iadd (pc := 115) dX3_readOperation_115 ?_
        refine x_iast (pc := 116) dX3_readOperation_116 (LShop_a5 hh3) hv70 hv71 (by decide) ?_
        refine x_nmI (fun I72 eI72 => ?_)
        have h := h I72 eI72
        exact x_vret (pc := 117) dX3_readOperation_117 rfl (Nat.le_refl _) (Nat.le_refl _) ⟨rfl, rfl, h⟩
  · have h := hB6 hc
    refine x_aload_n (pc := 13) 0 dX3_readOperation_13 rfl ?_
    refine x_bipush (pc := 14) dX3_readOperation_14 rfl ?_
    refine x_Vv (μ := m_X3_readOperation) (pc := 16) dX3_readOperation_16 h k_X3_fail ml_X3_89 ⟨Nat.le_of_ble_eq_true rfl, Nat.le_of_ble_eq_true rfl⟩ ⟨rfl, rfl⟩ ⟨Nat.zero_le _, Nat.zero_le _⟩ rfl (LRead_ob hr) rfl (Nat.le_of_ble_eq_true rfl) _ rfl (fun I73 h => ?_)
    exact x_vret (pc := 19) dX3_readOperation_19 rfl (Nat.le_refl _) (Nat.le_refl _) ⟨rfl, rfl, h⟩
set_option maxRecDepth 100000 in
set_option maxHeartbeats 4000000 in
theorem t_X3_needsAlready_0 {Γ : GG} {P : MP} {I : MM} {R : Int → MM → Prop} {x2 x3 : Int} (hr : LRead Γ P) {σ3 κ3 n3 : Nat} (hh3 : LShop Γ P σ3 κ3 n3)
    (h : XM Γ m_X3_needsAlready 0 0 3 [(1, vR σ3), (2, vI x2), (3, vI x3), (4, vI 0)] [] P I (ri P R)) :
    XM Γ m_X3_needsAlready 0 0 0 [(0, vR 31), (1, vR σ3), (2, vI x2), (3, vI x3)] [] P I (ri P R) := by
  refine x_iconst (pc := 0) dX3_needsAlready_0 ?_
  refine x_istore (pc := 1) (al' := [(0, vR 31), (1, vR σ3), (2, vI x2), (3, vI x3), (4, vI 0)]) dX3_needsAlready_1 rfl rfl (Nat.le_of_ble_eq_true rfl) ?_
  exact x_sub [1, 2, 3, 4] rfl h
set_option maxRecDepth 100000 in
set_option maxHeartbeats 4000000 in
theorem t_X3_needsAlready_3 {Γ : GG} {P : MP} {I : MM} {R : Int → MM → Prop} {x2 x3 x4 : Int} (hr : LRead Γ P) {σ3 κ3 n3 : Nat} (hh3 : LShop Γ P σ3 κ3 n3)
    (h : (0 ≤ x2) ∧ (x2 < 6) ∧ (inR x4) ∧ (inR (I (σ3 + 7) (x2).toNat)) ∧ (((I (σ3 + 7) (x2).toNat) ≤ x4 → R 0 I) ∧ (¬ (I (σ3 + 7) (x2).toNat) ≤ x4 → (Cl Γ m_X5_idOf [vI x2, vI x4] P I (ri P (fun (z7 : Int) (I8 : MM) => (0 ≤ z7) ∧ (z7 < 36) ∧ (inR (I8 (σ3 + 8) (z7).toNat)) ∧ (inR x3) ∧ (((I8 (σ3 + 8) (z7).toNat) ≠ x3 → XM Γ m_X3_needsAlready 0 0 3 [(1, vR σ3), (2, vI x2), (3, vI x3), (4, vI (x4 + 1))] [] P I8 (ri P R)) ∧ ((I8 (σ3 + 8) (z7).toNat) = x3 → R 1 I8)))))))) :
    XM Γ m_X3_needsAlready 0 0 3 [(1, vR σ3), (2, vI x2), (3, vI x3), (4, vI x4)] [] P I (ri P R) := by
  refine x_iload (pc := 3) 3 dX3_needsAlready_3 rfl ?_
  refine x_aload_n (pc := 5) 0 dX3_needsAlready_5 rfl ?_
  refine x_getP (pc := 6) dX3_needsAlready_6 FC4 9 (by decide) rfl fl_X3_129 (LShop_ob hh3) (LShop_p9 hh3) ?_
  refine x_iload_n (pc := 9) 1 dX3_needsAlready_9 rfl ?_
  obtain ⟨hv1, h⟩ := h
  obtain ⟨hv2, h⟩ := h
  refine x_iald (pc := 10) dX3_needsAlready_10 (LShop_a9 hh3) hv1 hv2 (by decide) ?_
  obtain ⟨hr3, h⟩ := h
  obtain ⟨hr4, h⟩ := h
  obtain ⟨hA5, hB6⟩ := h
  refine x_icmp_ge (pc := 11) 37 dX3_needsAlready_11 (by decide) hr3 hr4 (fun hc => ?_) (fun hc => ?_)
  · have h := hA5 hc
    refine x_iconst (pc := 37) dX3_needsAlready_37 ?_
    exact x_zret (pc := 38) dX3_needsAlready_38 rfl (by decide) (Nat.le_refl _) (Nat.le_refl _) ⟨_, rfl, rfl, h⟩
  · have h := hB6 hc
    refine x_aload_n (pc := 14) 0 dX3_needsAlready_14 rfl ?_
    refine x_getP (pc := 15) dX3_needsAlready_15 FC4 10 (by decide) rfl fl_X3_140 (LShop_ob hh3) (LShop_p10 hh3) ?_
    refine x_iload_n (pc := 18) 1 dX3_needsAlready_18 rfl ?_
    refine x_iload (pc := 19) 3 dX3_needsAlready_19 rfl ?_
    refine x_Ni (μ := m_X3_needsAlready) (pc := 21) "BlockingShop" dX3_needsAlready_21 h k_X5_idOf (by decide +kernel) ⟨Nat.le_of_ble_eq_true rfl, Nat.le_of_ble_eq_true rfl⟩ ⟨rfl, rfl⟩ ⟨Nat.zero_le _, Nat.zero_le _⟩ rfl (Nat.le_of_ble_eq_true rfl) _ rfl (fun z7 I8 h => ?_)
    obtain ⟨hv9, h⟩ := h
    obtain ⟨hv10, h⟩ := h
    refine x_iald (pc := 24) dX3_needsAlready_24 (LShop_a10 hh3) hv9 hv10 (by decide) ?_
    refine x_iload_n (pc := 25) 2 dX3_needsAlready_25 rfl ?_
    obtain ⟨hr11, h⟩ := h
    obtain ⟨hr12, h⟩ := h
    obtain ⟨hA13, hB14⟩ := h
    refine x_icmp_ne (pc := 26) 31 dX3_needsAlready_26 (by decide) hr11 hr12 (fun hc => ?_) (fun hc => ?_)
    · have h := hA13 hc
      refine x_iinc (pc := 31) (al' := [(1, vR σ3), (2, vI x2), (3, vI x3), (4, vI (x4 + 1))]) 3 dX3_needsAlready_31 rfl rfl rfl (Nat.le_of_ble_eq_true rfl) ?_
      refine x_goto (pc := 34) 3 dX3_needsAlready_34 (by decide) ?_
      exact x_sub [0, 1, 2, 3] rfl h
    · have h := hB14 hc
      refine x_iconst (pc := 29) dX3_needsAlready_29 ?_
      exact x_zret (pc := 30) dX3_needsAlready_30 rfl (by decide) (Nat.le_refl _) (Nat.le_refl _) ⟨_, rfl, rfl, h⟩
set_option maxRecDepth 100000 in
set_option maxHeartbeats 4000000 in
theorem t_X3_readMachine_0 {Γ : GG} {P : MP} {I : MM} {R : MM → Prop} (hr : LRead Γ P) {σ3 κ3 n3 : Nat} (hh3 : LShop Γ P σ3 κ3 n3)
    (h : (Cl Γ m_X3_next [vR 31] P I (rv P (fun (I1 : MM) => (Cl Γ m_X3_readNumber [vR 31, vI 0, vI ((I1 σ3 0) - 1)] P I1 (ri P (fun (z2 : Int) (I3 : MM) => (Cl Γ m_X3_readNumber [vR 31, vI 0, vI 1] P I3 (ri P (fun (z4 : Int) (I5 : MM) => (inR z4) ∧ ((z4 ≠ 0 → (0 ≤ z2) ∧ (z2 < 6) ∧ (∀ I11 : MM, I11 = up2 I5 (σ3 + 1) (z2).toNat 0 → (Cl Γ m_X3_readNumber [vR 31, vI 0, vI 99] P I11 (ri P (fun (z12 : Int) (I13 : MM) => (∀ I14 : MM, I14 = up2 I13 (σ3 + 2) (z2).toNat z12 → R I14)))))) ∧ (z4 = 0 → (0 ≤ z2) ∧ (z2 < 6) ∧ (∀ I17 : MM, I17 = up2 I5 (σ3 + 1) (z2).toNat 1 → (Cl Γ m_X3_readNumber [vR 31, vI 0, vI 99] P I17 (ri P (fun (z18 : Int) (I19 : MM) => (∀ I20 : MM, I20 = up2 I19 (σ3 + 2) (z2).toNat z18 → R I20))))))))))))))))) :
    XM Γ m_X3_readMachine 0 0 0 [(0, vR 31), (1, vR σ3)] [] P I (rv P R) := by
  refine x_aload_n (pc := 0) 0 dX3_readMachine_0 rfl ?_
  refine x_Vv (μ := m_X3_readMachine) (pc := 1) dX3_readMachine_1 h k_X3_next ml_X3_54 ⟨Nat.le_of_ble_eq_true rfl, Nat.le_of_ble_eq_true rfl⟩ ⟨rfl, rfl⟩ ⟨Nat.zero_le _, Nat.zero_le _⟩ rfl (LRead_ob hr) rfl (Nat.le_of_ble_eq_true rfl) _ rfl (fun I1 h => ?_)
  refine x_aload_n (pc := 4) 0 dX3_readMachine_4 rfl ?_
  refine x_iconst (pc := 5) dX3_readMachine_5 ?_
  refine x_aload_n (pc := 6) 1 dX3_readMachine_6 rfl ?_
  refine x_getI (pc := 7) dX3_readMachine_7 FC4 0 (by decide) rfl fl_X3_108 (LShop_ob hh3) ?_
  refine x_iconst (pc := 10) dX3_readMachine_10 ?_
  refine x_isub (pc := 11) dX3_readMachine_11 ?_
  refine x_Vi (μ := m_X3_readMachine) (pc := 12) dX3_readMachine_12 h k_X3_readNumber ml_X3_105 ⟨Nat.le_of_ble_eq_true rfl, Nat.le_of_ble_eq_true rfl⟩ ⟨rfl, rfl⟩ ⟨Nat.zero_le _, Nat.zero_le _⟩ rfl (LRead_ob hr) rfl (Nat.le_of_ble_eq_true rfl) _ rfl (fun z2 I3 h => ?_)
  refine x_istore_n (pc := 15) (al' := [(0, vR 31), (1, vR σ3), (2, vI z2)]) dX3_readMachine_15 rfl rfl (Nat.le_of_ble_eq_true rfl) ?_
  refine x_aload_n (pc := 16) 1 dX3_readMachine_16 rfl ?_
  refine x_getP (pc := 17) dX3_readMachine_17 FC4 3 (by decide) rfl fl_X3_152 (LShop_ob hh3) (LShop_p3 hh3) ?_
  refine x_iload_n (pc := 20) 2 dX3_readMachine_20 rfl ?_
  refine x_aload_n (pc := 21) 0 dX3_readMachine_21 rfl ?_
  refine x_iconst (pc := 22) dX3_readMachine_22 ?_
  refine x_iconst (pc := 23) dX3_readMachine_23 ?_
  refine x_Vi (μ := m_X3_readMachine) (pc := 24) dX3_readMachine_24 h k_X3_readNumber ml_X3_105 ⟨Nat.le_of_ble_eq_true rfl, Nat.le_of_ble_eq_true rfl⟩ ⟨rfl, rfl⟩ ⟨Nat.zero_le _, Nat.zero_le _⟩ rfl (LRead_ob hr) rfl (Nat.le_of_ble_eq_true rfl) _ rfl (fun z4 I5 h => ?_)
  obtain ⟨hr6, h⟩ := h
  obtain ⟨hA7, hB8⟩ := h
  refine x_if_ne (pc := 27) 34 dX3_readMachine_27 (by decide) hr6 (fun hc => ?_) (fun hc => ?_)
  · have h := hA7 hc
    refine x_iconst (pc := 34) dX3_readMachine_34 ?_
    obtain ⟨hv9, h⟩ := h
    obtain ⟨hv10, h⟩ := h
    refine x_zast (pc := 35) dX3_readMachine_35 (LShop_a3 hh3) hv9 hv10 (by decide) (by decide) ?_
    refine x_nmI (fun I11 eI11 => ?_)
    have h := h I11 eI11
    refine x_aload_n (pc := 36) 1 dX3_readMachine_36 rfl ?_
    refine x_getP (pc := 37) dX3_readMachine_37 FC4 4 (by decide) rfl fl_X3_156 (LShop_ob hh3) (LShop_p4 hh3) ?_
    refine x_iload_n (pc := 40) 2 dX3_readMachine_40 rfl ?_
    refine x_aload_n (pc := 41) 0 dX3_readMachine_41 rfl ?_
    refine x_iconst (pc := 42) dX3_readMachine_42 ?_
    refine x_bipush (pc := 43) dX3_readMachine_43 rfl ?_
    refine x_Vi (μ := m_X3_readMachine) (pc := 45) dX3_readMachine_45 h k_X3_readNumber ml_X3_105 ⟨Nat.le_of_ble_eq_true rfl, Nat.le_of_ble_eq_true rfl⟩ ⟨rfl, rfl⟩ ⟨Nat.zero_le _, Nat.zero_le _⟩ rfl (LRead_ob hr) rfl (Nat.le_of_ble_eq_true rfl) _ rfl (fun z12 I13 h => ?_)
    refine x_iast (pc := 48) dX3_readMachine_48 (LShop_a4 hh3) hv9 hv10 (by decide) ?_
    refine x_nmI (fun I14 eI14 => ?_)
    have h := h I14 eI14
    exact x_vret (pc := 49) dX3_readMachine_49 rfl (Nat.le_refl _) (Nat.le_refl _) ⟨rfl, rfl, h⟩
  · have h := hB8 hc
    refine x_iconst (pc := 30) dX3_readMachine_30 ?_
    refine x_goto (pc := 31) 35 dX3_readMachine_31 (by decide) ?_
    obtain ⟨hv15, h⟩ := h
    obtain ⟨hv16, h⟩ := h
    refine x_zast (pc := 35) dX3_readMachine_35 (LShop_a3 hh3) hv15 hv16 (by decide) (by decide) ?_
    refine x_nmI (fun I17 eI17 => ?_)
    have h := h I17 eI17
    refine x_aload_n (pc := 36) 1 dX3_readMachine_36 rfl ?_
    refine x_getP (pc := 37) dX3_readMachine_37 FC4 4 (by decide) rfl fl_X3_156 (LShop_ob hh3) (LShop_p4 hh3) ?_
    refine x_iload_n (pc := 40) 2 dX3_readMachine_40 rfl ?_
    refine x_aload_n (pc := 41) 0 dX3_readMachine_41 rfl ?_
    refine x_iconst (pc := 42) dX3_readMachine_42 ?_
    refine x_bipush (pc := 43) dX3_readMachine_43 rfl ?_
    refine x_Vi (μ := m_X3_readMachine) (pc := 45) dX3_readMachine_45 h k_X3_readNumber ml_X3_105 ⟨Nat.le_of_ble_eq_true rfl, Nat.le_of_ble_eq_true rfl⟩ ⟨rfl, rfl⟩ ⟨Nat.zero_le _, Nat.zero_le _⟩ rfl (LRead_ob hr) rfl (Nat.le_of_ble_eq_true rfl) _ rfl (fun z18 I19 h => ?_)
    refine x_iast (pc := 48) dX3_readMachine_48 (LShop_a4 hh3) hv15 hv16 (by decide) ?_
    refine x_nmI (fun I20 eI20 => ?_)
    have h := h I20 eI20
    exact x_vret (pc := 49) dX3_readMachine_49 rfl (Nat.le_refl _) (Nat.le_refl _) ⟨rfl, rfl, h⟩
