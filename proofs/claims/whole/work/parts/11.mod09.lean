set_option maxRecDepth 100000 in
set_option maxHeartbeats 4000000 in
theorem t_X6_operation_0 {Γ : GG} {P : MP} {I : MM} {R : Int → MM → Prop} {x1 x2 x3 : Int} (hM : LM Γ P)
    (h : (∀ I1 : MM, I1 = up2 I 1 0 0 → (Cl Γ m_X6_noOperation [vR 1, vI x1, vI x2] P I1 (ri P (fun (z2 : Int) (I3 : MM) => (inR z2) ∧ ((z2 ≠ 0 → R 0 I3) ∧ (z2 = 0 → (Cl Γ m_X6_in [vI x3, vI 0, vI 2] P I3 (ri P (fun (z7 : Int) (I8 : MM) => (inR z7) ∧ ((z7 ≠ 0 → (Cl Γ m_X6_fails [vR 1, vI 0, vI 2] P I8 (ri P (fun (z12 : Int) (I13 : MM) => (inR z12) ∧ ((z12 = 0 → (∀ x17 : Int, x17 = ((6 * x1) + x2) → (inR x3) ∧ ((x3 ≠ 2 → (Cl Γ m_X6_operationAt [vI x17] P I13 (ri P (fun (z21 : Int) (I22 : MM) => (0 ≤ (z21 + x3)) ∧ ((z21 + x3) < 1655) ∧ R (I22 3 ((z21 + x3)).toNat) I22)))) ∧ (x3 = 2 → (Cl Γ m_X6_placeOf [vR 1, vI x17] P I13 (ri P (fun (z25 : Int) (I26 : MM) => R z25 I26))))))) ∧ (¬ z12 = 0 → R 0 I13)))))) ∧ (z7 = 0 → (Cl Γ m_X6_fails [vR 1, vI 1, vI 2] P I8 (ri P (fun (z27 : Int) (I28 : MM) => (inR z27) ∧ ((z27 = 0 → (∀ x32 : Int, x32 = ((6 * x1) + x2) → (inR x3) ∧ ((x3 ≠ 2 → (Cl Γ m_X6_operationAt [vI x32] P I28 (ri P (fun (z36 : Int) (I37 : MM) => (0 ≤ (z36 + x3)) ∧ ((z36 + x3) < 1655) ∧ R (I37 3 ((z36 + x3)).toNat) I37)))) ∧ (x3 = 2 → (Cl Γ m_X6_placeOf [vR 1, vI x32] P I28 (ri P (fun (z40 : Int) (I41 : MM) => R z40 I41))))))) ∧ (¬ z27 = 0 → R 0 I28))))))))))))))))) :
    XM Γ m_X6_operation 0 0 0 [(0, vR 1), (1, vI x1), (2, vI x2), (3, vI x3)] [] P I (ri P R) := by
  refine x_aload_n (pc := 0) 0 dX6_operation_0 rfl ?_
  refine x_iconst (pc := 1) dX6_operation_1 ?_
  refine x_putI (pc := 2) dX6_operation_2 FC6 0 (by decide) rfl rfl fl_X6_51 (LM_ob hM) ?_
  refine x_nmI (fun I1 eI1 => ?_)
  have h := h I1 eI1
  refine x_aload_n (pc := 5) 0 dX6_operation_5 rfl ?_
  refine x_iload_n (pc := 6) 1 dX6_operation_6 rfl ?_
  refine x_iload_n (pc := 7) 2 dX6_operation_7 rfl ?_
  refine x_Vi (μ := m_X6_operation) (pc := 8) dX6_operation_8 h k_X6_noOperation ml_X6_275 ⟨Nat.le_of_ble_eq_true rfl, Nat.le_of_ble_eq_true rfl⟩ ⟨rfl, rfl⟩ ⟨Nat.zero_le _, Nat.zero_le _⟩ rfl (LM_ob hM) rfl (Nat.le_of_ble_eq_true rfl) _ rfl (fun z2 I3 h => ?_)
  obtain ⟨hr4, h⟩ := h
  obtain ⟨hA5, hB6⟩ := h
  refine x_if_ne (pc := 11) 36 dX6_operation_11 (by decide) hr4 (fun hc => ?_) (fun hc => ?_)
  · have h := hA5 hc
    refine x_iconst (pc := 36) dX6_operation_36 ?_
    exact x_iret (pc := 37) dX6_operation_37 rfl (Nat.le_refl _) (Nat.le_refl _) ⟨_, rfl, rfl, h⟩
  · have h := hB6 hc
    refine x_aload_n (pc := 14) 0 dX6_operation_14 rfl ?_
    refine x_iload_n (pc := 15) 3 dX6_operation_15 rfl ?_
    refine x_iconst (pc := 16) dX6_operation_16 ?_
    refine x_iconst (pc := 17) dX6_operation_17 ?_
    refine x_Si (μ := m_X6_operation) (pc := 18) dX6_operation_18 h k_X6_in ml_X6_73 ⟨Nat.le_of_ble_eq_true rfl, Nat.le_of_ble_eq_true rfl⟩ ⟨rfl, rfl⟩ ⟨Nat.zero_le _, Nat.zero_le _⟩ rfl (Nat.le_of_ble_eq_true rfl) _ rfl (fun z7 I8 h => ?_)
    obtain ⟨hr9, h⟩ := h
    obtain ⟨hA10, hB11⟩ := h
    refine x_if_ne (pc := 21) 28 dX6_operation_21 (by decide) hr9 (fun hc => ?_) (fun hc => ?_)
    · have h := hA10 hc
      refine x_iconst (pc := 28) dX6_operation_28 ?_
      refine x_iconst (pc := 29) dX6_operation_29 ?_
      refine x_Vi (μ := m_X6_operation) (pc := 30) dX6_operation_30 h k_X6_fails ml_X6_174 ⟨Nat.le_of_ble_eq_true rfl, Nat.le_of_ble_eq_true rfl⟩ ⟨rfl, rfl⟩ ⟨Nat.zero_le _, Nat.zero_le _⟩ rfl (LM_ob hM) rfl (Nat.le_of_ble_eq_true rfl) _ rfl (fun z12 I13 h => ?_)
      obtain ⟨hr14, h⟩ := h
      obtain ⟨hA15, hB16⟩ := h
      refine x_if_eq (pc := 33) 38 dX6_operation_33 (by decide) hr14 (fun hc => ?_) (fun hc => ?_)
      · have h := hA15 hc
        refine x_bipush (pc := 38) dX6_operation_38 rfl ?_
        refine x_iload_n (pc := 40) 1 dX6_operation_40 rfl ?_
        refine x_imul (pc := 41) dX6_operation_41 ?_
        refine x_iload_n (pc := 42) 2 dX6_operation_42 rfl ?_
        refine x_iadd (pc := 43) dX6_operation_43 ?_
        refine x_nmT (fun x17 ex17 => ?_)
        have h := h x17 ex17
        refine x_istore (pc := 44) (al' := [(0, vR 1), (1, vI x1), (2, vI x2), (3, vI x3), (4, vI x17)]) dX6_operation_44 rfl rfl (by decide) ?_
        refine x_iload_n (pc := 46) 3 dX6_operation_46 rfl ?_
        refine x_iconst (pc := 47) dX6_operation_47 ?_
        obtain ⟨hr18, h⟩ := h
        obtain ⟨hA19, hB20⟩ := h
        refine x_icmp_ne (pc := 48) 60 dX6_operation_48 (by decide) hr18 ⟨by decide, by decide⟩ (fun hc => ?_) (fun hc => ?_)
        · have h := hA19 hc
          refine x_aload_n (pc := 60) 0 dX6_operation_60 rfl ?_
          refine x_getP (pc := 61) dX6_operation_61 FC6 8 (by decide) rfl fl_X6_17 (LM_ob hM) (LM_p8 hM) ?_
          refine x_iload (pc := 64) 4 dX6_operation_64 rfl ?_
          refine x_Si (μ := m_X6_operation) (pc := 66) dX6_operation_66 h k_X6_operationAt ml_X6_155 ⟨Nat.le_of_ble_eq_true rfl, Nat.le_of_ble_eq_true rfl⟩ ⟨rfl, rfl⟩ ⟨Nat.zero_le _, Nat.zero_le _⟩ rfl (Nat.le_of_ble_eq_true rfl) _ rfl (fun z21 I22 h => ?_)
          refine x_iload_n (pc := 69) 3 dX6_operation_69 rfl ?_
          refine x_iadd (pc := 70) dX6_operation_70 ?_
          obtain ⟨hv23, h⟩ := h
          obtain ⟨hv24, h⟩ := h
          refine x_iald (pc := 71) dX6_operation_71 (LM_a8 hM) hv23 hv24 (by decide) ?_
          exact x_iret (pc := 72) dX6_operation_72 rfl (Nat.le_refl _) (Nat.le_refl _) ⟨_, rfl, rfl, h⟩
        · have h := hB20 hc
          refine x_aload_n (pc := 51) 0 dX6_operation_51 rfl ?_
          refine x_iload (pc := 52) 4 dX6_operation_52 rfl ?_
          refine x_Vi (μ := m_X6_operation) (pc := 54) dX6_operation_54 h k_X6_placeOf ml_X6_279 ⟨Nat.le_of_ble_eq_true rfl, Nat.le_of_ble_eq_true rfl⟩ ⟨rfl, rfl⟩ ⟨Nat.zero_le _, Nat.zero_le _⟩ rfl (LM_ob hM) rfl (Nat.le_of_ble_eq_true rfl) _ rfl (fun z25 I26 h => ?_)
          refine x_goto (pc := 57) 72 dX6_operation_57 (by decide) ?_
          exact x_iret (pc := 72) dX6_operation_72 rfl (Nat.le_refl _) (Nat.le_refl _) ⟨_, rfl, rfl, h⟩
      · have h := hB16 hc
        refine x_iconst (pc := 36) dX6_operation_36 ?_
        exact x_iret (pc := 37) dX6_operation_37 rfl (Nat.le_refl _) (Nat.le_refl _) ⟨_, rfl, rfl, h⟩
    · have h := hB11 hc
      refine x_iconst (pc := 24) dX6_operation_24 ?_
      refine x_goto (pc := 25) 29 dX6_operation_25 (by decide) ?_
      refine x_iconst (pc := 29) dX6_operation_29 ?_
      refine x_Vi (μ := m_X6_operation) (pc := 30) dX6_operation_30 h k_X6_fails ml_X6_174 ⟨Nat.le_of_ble_eq_true rfl, Nat.le_of_ble_eq_true rfl⟩ ⟨rfl, rfl⟩ ⟨Nat.zero_le _, Nat.zero_le _⟩ rfl (LM_ob hM) rfl (Nat.le_of_ble_eq_true rfl) _ rfl (fun z27 I28 h => ?_)
      obtain ⟨hr29, h⟩ := h
      obtain ⟨hA30, hB31⟩ := h
      refine x_if_eq (pc := 33) 38 dX6_operation_33 (by decide) hr29 (fun hc => ?_) (fun hc => ?_)
      · have h := hA30 hc
        refine x_bipush (pc := 38) dX6_operation_38 rfl ?_
        refine x_iload_n (pc := 40) 1 dX6_operation_40 rfl ?_
        refine x_imul (pc := 41) dX6_operation_41 ?_
        refine x_iload_n (pc := 42) 2 dX6_operation_42 rfl ?_
        refine x_iadd (pc := 43) dX6_operation_43 ?_
        refine x_nmT (fun x32 ex32 => ?_)
        have h := h x32 ex32
        refine x_istore (pc := 44) (al' := [(0, vR 1), (1, vI x1), (2, vI x2), (3, vI x3), (4, vI x32)]) dX6_operation_44 rfl rfl (by decide) ?_
        refine x_iload_n (pc := 46) 3 dX6_operation_46 rfl ?_
        refine x_iconst (pc := 47) dX6_operation_47 ?_
        obtain ⟨hr33, h⟩ := h
        obtain ⟨hA34, hB35⟩ := h
        refine x_icmp_ne (pc := 48) 60 dX6_operation_48 (by decide) hr33 ⟨by decide, by decide⟩ (fun hc => ?_) (fun hc => ?_)
        · have h := hA34 hc
          refine x_aload_n (pc := 60) 0 dX6_operation_60 rfl ?_
          refine x_getP (pc := 61) dX6_operation_61 FC6 8 (by decide) rfl fl_X6_17 (LM_ob hM) (LM_p8 hM) ?_
          refine x_iload (pc := 64) 4 dX6_operation_64 rfl ?_
          refine x_Si (μ := m_X6_operation) (pc := 66) dX6_operation_66 h k_X6_operationAt ml_X6_155 ⟨Nat.le_of_ble_eq_true rfl, Nat.le_of_ble_eq_true rfl⟩ ⟨rfl, rfl⟩ ⟨Nat.zero_le _, Nat.zero_le _⟩ rfl (Nat.le_of_ble_eq_true rfl) _ rfl (fun z36 I37 h => ?_)
          refine x_iload_n (pc := 69) 3 dX6_operation_69 rfl ?_
          refine x_iadd (pc := 70) dX6_operation_70 ?_
          obtain ⟨hv38, h⟩ := h
          obtain ⟨hv39, h⟩ := h
          refine x_iald (pc := 71) dX6_operation_71 (LM_a8 hM) hv38 hv39 (by decide) ?_
          exact x_iret (pc := 72) dX6_operation_72 rfl (Nat.le_refl _) (Nat.le_refl _) ⟨_, rfl, rfl, h⟩
        · have h := hB35 hc
          refine x_aload_n (pc := 51) 0 dX6_operation_51 rfl ?_
          refine x_iload (pc := 52) 4 dX6_operation_52 rfl ?_
          refine x_Vi (μ := m_X6_operation) (pc := 54) dX6_operation_54 h k_X6_placeOf ml_X6_279 ⟨Nat.le_of_ble_eq_true rfl, Nat.le_of_ble_eq_true rfl⟩ ⟨rfl, rfl⟩ ⟨Nat.zero_le _, Nat.zero_le _⟩ rfl (LM_ob hM) rfl (Nat.le_of_ble_eq_true rfl) _ rfl (fun z40 I41 h => ?_)
          refine x_goto (pc := 57) 72 dX6_operation_57 (by decide) ?_
          exact x_iret (pc := 72) dX6_operation_72 rfl (Nat.le_refl _) (Nat.le_refl _) ⟨_, rfl, rfl, h⟩
      · have h := hB31 hc
        refine x_iconst (pc := 36) dX6_operation_36 ?_
        exact x_iret (pc := 37) dX6_operation_37 rfl (Nat.le_refl _) (Nat.le_refl _) ⟨_, rfl, rfl, h⟩
set_option maxRecDepth 100000 in
set_option maxHeartbeats 4000000 in
theorem t_X6_orderLength_0 {Γ : GG} {P : MP} {I : MM} {R : Int → MM → Prop} {x1 : Int} (hM : LM Γ P)
    (h : (∀ I1 : MM, I1 = up2 I 1 0 0 → (Cl Γ m_X6_noMachine [vR 1, vI x1] P I1 (ri P (fun (z2 : Int) (I3 : MM) => (inR z2) ∧ ((z2 = 0 → (Cl Γ m_X6_machine [vI x1] P I3 (ri P (fun (z7 : Int) (I8 : MM) => (0 ≤ (z7 + 2)) ∧ ((z7 + 2) < 1655) ∧ R (I8 3 ((z7 + 2)).toNat) I8)))) ∧ (¬ z2 = 0 → R 0 I3))))))) :
    XM Γ m_X6_orderLength 0 0 0 [(0, vR 1), (1, vI x1)] [] P I (ri P R) := by
  refine x_aload_n (pc := 0) 0 dX6_orderLength_0 rfl ?_
  refine x_iconst (pc := 1) dX6_orderLength_1 ?_
  refine x_putI (pc := 2) dX6_orderLength_2 FC6 0 (by decide) rfl rfl fl_X6_51 (LM_ob hM) ?_
  refine x_nmI (fun I1 eI1 => ?_)
  have h := h I1 eI1
  refine x_aload_n (pc := 5) 0 dX6_orderLength_5 rfl ?_
  refine x_iload_n (pc := 6) 1 dX6_orderLength_6 rfl ?_
  refine x_Vi (μ := m_X6_orderLength) (pc := 7) dX6_orderLength_7 h k_X6_noMachine ml_X6_272 ⟨Nat.le_of_ble_eq_true rfl, Nat.le_of_ble_eq_true rfl⟩ ⟨rfl, rfl⟩ ⟨Nat.zero_le _, Nat.zero_le _⟩ rfl (LM_ob hM) rfl (Nat.le_of_ble_eq_true rfl) _ rfl (fun z2 I3 h => ?_)
  obtain ⟨hr4, h⟩ := h
  obtain ⟨hA5, hB6⟩ := h
  refine x_if_eq (pc := 10) 17 dX6_orderLength_10 (by decide) hr4 (fun hc => ?_) (fun hc => ?_)
  · have h := hA5 hc
    refine x_aload_n (pc := 17) 0 dX6_orderLength_17 rfl ?_
    refine x_getP (pc := 18) dX6_orderLength_18 FC6 8 (by decide) rfl fl_X6_17 (LM_ob hM) (LM_p8 hM) ?_
    refine x_iload_n (pc := 21) 1 dX6_orderLength_21 rfl ?_
    refine x_Si (μ := m_X6_orderLength) (pc := 22) dX6_orderLength_22 h k_X6_machine ml_X6_158 ⟨Nat.le_of_ble_eq_true rfl, Nat.le_of_ble_eq_true rfl⟩ ⟨rfl, rfl⟩ ⟨Nat.zero_le _, Nat.zero_le _⟩ rfl (Nat.le_of_ble_eq_true rfl) _ rfl (fun z7 I8 h => ?_)
    refine x_iconst (pc := 25) dX6_orderLength_25 ?_
    refine x_iadd (pc := 26) dX6_orderLength_26 ?_
    obtain ⟨hv9, h⟩ := h
    obtain ⟨hv10, h⟩ := h
    refine x_iald (pc := 27) dX6_orderLength_27 (LM_a8 hM) hv9 hv10 (by decide) ?_
    exact x_iret (pc := 28) dX6_orderLength_28 rfl (Nat.le_refl _) (Nat.le_refl _) ⟨_, rfl, rfl, h⟩
  · have h := hB6 hc
    refine x_iconst (pc := 13) dX6_orderLength_13 ?_
    refine x_goto (pc := 14) 28 dX6_orderLength_14 (by decide) ?_
    exact x_iret (pc := 28) dX6_orderLength_28 rfl (Nat.le_refl _) (Nat.le_refl _) ⟨_, rfl, rfl, h⟩
set_option maxRecDepth 100000 in
set_option maxHeartbeats 4000000 in
theorem t_X6_orderAt_0 {Γ : GG} {P : MP} {I : MM} {R : Int → MM → Prop} {x1 x2 : Int} (hM : LM Γ P)
    (h : (∀ I1 : MM, I1 = up2 I 1 0 0 → (Cl Γ m_X6_noMachine [vR 1, vI x1] P I1 (ri P (fun (z2 : Int) (I3 : MM) => (inR z2) ∧ ((z2 ≠ 0 → R 0 I3) ∧ (z2 = 0 → (Cl Γ m_X6_machine [vI x1] P I3 (ri P (fun (z7 : Int) (I8 : MM) => (0 ≤ (z7 + 2)) ∧ ((z7 + 2) < 1655) ∧ (Cl Γ m_X6_in [vI x2, vI 0, vI ((I8 3 ((z7 + 2)).toNat) - 1)] P I8 (ri P (fun (z11 : Int) (I12 : MM) => (inR z11) ∧ ((z11 ≠ 0 → (Cl Γ m_X6_fails [vR 1, vI 0, vI 1] P I12 (ri P (fun (z16 : Int) (I17 : MM) => (inR z16) ∧ ((z16 = 0 → (Cl Γ m_X6_machine [vI x1] P I17 (ri P (fun (z21 : Int) (I22 : MM) => (0 ≤ ((z21 + 3) + x2)) ∧ (((z21 + 3) + x2) < 1655) ∧ (Cl Γ m_X6_told [vI (I22 3 (((z21 + 3) + x2)).toNat)] P I22 (ri P (fun (z25 : Int) (I26 : MM) => R z25 I26))))))) ∧ (¬ z16 = 0 → R 0 I17)))))) ∧ (z11 = 0 → (Cl Γ m_X6_fails [vR 1, vI 1, vI 1] P I12 (ri P (fun (z27 : Int) (I28 : MM) => (inR z27) ∧ ((z27 = 0 → (Cl Γ m_X6_machine [vI x1] P I28 (ri P (fun (z32 : Int) (I33 : MM) => (0 ≤ ((z32 + 3) + x2)) ∧ (((z32 + 3) + x2) < 1655) ∧ (Cl Γ m_X6_told [vI (I33 3 (((z32 + 3) + x2)).toNat)] P I33 (ri P (fun (z36 : Int) (I37 : MM) => R z36 I37))))))) ∧ (¬ z27 = 0 → R 0 I28)))))))))))))))))))) :
    XM Γ m_X6_orderAt 0 0 0 [(0, vR 1), (1, vI x1), (2, vI x2)] [] P I (ri P R) := by
  refine x_aload_n (pc := 0) 0 dX6_orderAt_0 rfl ?_
  refine x_iconst (pc := 1) dX6_orderAt_1 ?_
  refine x_putI (pc := 2) dX6_orderAt_2 FC6 0 (by decide) rfl rfl fl_X6_51 (LM_ob hM) ?_
  refine x_nmI (fun I1 eI1 => ?_)
  have h := h I1 eI1
  refine x_aload_n (pc := 5) 0 dX6_orderAt_5 rfl ?_
  refine x_iload_n (pc := 6) 1 dX6_orderAt_6 rfl ?_
  refine x_Vi (μ := m_X6_orderAt) (pc := 7) dX6_orderAt_7 h k_X6_noMachine ml_X6_272 ⟨Nat.le_of_ble_eq_true rfl, Nat.le_of_ble_eq_true rfl⟩ ⟨rfl, rfl⟩ ⟨Nat.zero_le _, Nat.zero_le _⟩ rfl (LM_ob hM) rfl (Nat.le_of_ble_eq_true rfl) _ rfl (fun z2 I3 h => ?_)
  obtain ⟨hr4, h⟩ := h
  obtain ⟨hA5, hB6⟩ := h
  refine x_if_ne (pc := 10) 47 dX6_orderAt_10 (by decide) hr4 (fun hc => ?_) (fun hc => ?_)
  · have h := hA5 hc
    refine x_iconst (pc := 47) dX6_orderAt_47 ?_
    refine x_goto (pc := 48) 67 dX6_orderAt_48 (by decide) ?_
    exact x_iret (pc := 67) dX6_orderAt_67 rfl (Nat.le_refl _) (Nat.le_refl _) ⟨_, rfl, rfl, h⟩
  · have h := hB6 hc
    refine x_aload_n (pc := 13) 0 dX6_orderAt_13 rfl ?_
    refine x_iload_n (pc := 14) 2 dX6_orderAt_14 rfl ?_
    refine x_iconst (pc := 15) dX6_orderAt_15 ?_
    refine x_aload_n (pc := 16) 0 dX6_orderAt_16 rfl ?_
    refine x_getP (pc := 17) dX6_orderAt_17 FC6 8 (by decide) rfl fl_X6_17 (LM_ob hM) (LM_p8 hM) ?_
    refine x_iload_n (pc := 20) 1 dX6_orderAt_20 rfl ?_
    refine x_Si (μ := m_X6_orderAt) (pc := 21) dX6_orderAt_21 h k_X6_machine ml_X6_158 ⟨Nat.le_of_ble_eq_true rfl, Nat.le_of_ble_eq_true rfl⟩ ⟨rfl, rfl⟩ ⟨Nat.zero_le _, Nat.zero_le _⟩ rfl (Nat.le_of_ble_eq_true rfl) _ rfl (fun z7 I8 h => ?_)
    refine x_iconst (pc := 24) dX6_orderAt_24 ?_
    refine x_iadd (pc := 25) dX6_orderAt_25 ?_
    obtain ⟨hv9, h⟩ := h
    obtain ⟨hv10, h⟩ := h
    refine x_iald (pc := 26) dX6_orderAt_26 (LM_a8 hM) hv9 hv10 (by decide) ?_
    refine x_iconst (pc := 27) dX6_orderAt_27 ?_
    refine x_isub (pc := 28) dX6_orderAt_28 ?_
    refine x_Si (μ := m_X6_orderAt) (pc := 29) dX6_orderAt_29 h k_X6_in ml_X6_73 ⟨Nat.le_of_ble_eq_true rfl, Nat.le_of_ble_eq_true rfl⟩ ⟨rfl, rfl⟩ ⟨Nat.zero_le _, Nat.zero_le _⟩ rfl (Nat.le_of_ble_eq_true rfl) _ rfl (fun z11 I12 h => ?_)
    obtain ⟨hr13, h⟩ := h
    obtain ⟨hA14, hB15⟩ := h
    refine x_if_ne (pc := 32) 39 dX6_orderAt_32 (by decide) hr13 (fun hc => ?_) (fun hc => ?_)
    · have h := hA14 hc
      refine x_iconst (pc := 39) dX6_orderAt_39 ?_
      refine x_iconst (pc := 40) dX6_orderAt_40 ?_
      refine x_Vi (μ := m_X6_orderAt) (pc := 41) dX6_orderAt_41 h k_X6_fails ml_X6_174 ⟨Nat.le_of_ble_eq_true rfl, Nat.le_of_ble_eq_true rfl⟩ ⟨rfl, rfl⟩ ⟨Nat.zero_le _, Nat.zero_le _⟩ rfl (LM_ob hM) rfl (Nat.le_of_ble_eq_true rfl) _ rfl (fun z16 I17 h => ?_)
      obtain ⟨hr18, h⟩ := h
      obtain ⟨hA19, hB20⟩ := h
      refine x_if_eq (pc := 44) 51 dX6_orderAt_44 (by decide) hr18 (fun hc => ?_) (fun hc => ?_)
      · have h := hA19 hc
        refine x_aload_n (pc := 51) 0 dX6_orderAt_51 rfl ?_
        refine x_getP (pc := 52) dX6_orderAt_52 FC6 8 (by decide) rfl fl_X6_17 (LM_ob hM) (LM_p8 hM) ?_
        refine x_iload_n (pc := 55) 1 dX6_orderAt_55 rfl ?_
        refine x_Si (μ := m_X6_orderAt) (pc := 56) dX6_orderAt_56 h k_X6_machine ml_X6_158 ⟨Nat.le_of_ble_eq_true rfl, Nat.le_of_ble_eq_true rfl⟩ ⟨rfl, rfl⟩ ⟨Nat.zero_le _, Nat.zero_le _⟩ rfl (Nat.le_of_ble_eq_true rfl) _ rfl (fun z21 I22 h => ?_)
        refine x_iconst (pc := 59) dX6_orderAt_59 ?_
        refine x_iadd (pc := 60) dX6_orderAt_60 ?_
        refine x_iload_n (pc := 61) 2 dX6_orderAt_61 rfl ?_
        refine x_iadd (pc := 62) dX6_orderAt_62 ?_
        obtain ⟨hv23, h⟩ := h
        obtain ⟨hv24, h⟩ := h
        refine x_iald (pc := 63) dX6_orderAt_63 (LM_a8 hM) hv23 hv24 (by decide) ?_
        refine x_Si (μ := m_X6_orderAt) (pc := 64) dX6_orderAt_64 h k_X6_told ml_X6_282 ⟨Nat.le_of_ble_eq_true rfl, Nat.le_of_ble_eq_true rfl⟩ ⟨rfl, rfl⟩ ⟨Nat.zero_le _, Nat.zero_le _⟩ rfl (Nat.le_of_ble_eq_true rfl) _ rfl (fun z25 I26 h => ?_)
        exact x_iret (pc := 67) dX6_orderAt_67 rfl (Nat.le_refl _) (Nat.le_refl _) ⟨_, rfl, rfl, h⟩
      · have h := hB20 hc
        refine x_iconst (pc := 47) dX6_orderAt_47 ?_
        refine x_goto (pc := 48) 67 dX6_orderAt_48 (by decide) ?_
        exact x_iret (pc := 67) dX6_orderAt_67 rfl (Nat.le_refl _) (Nat.le_refl _) ⟨_, rfl, rfl, h⟩
    · have h := hB15 hc
      refine x_iconst (pc := 35) dX6_orderAt_35 ?_
      refine x_goto (pc := 36) 40 dX6_orderAt_36 (by decide) ?_
      refine x_iconst (pc := 40) dX6_orderAt_40 ?_
      refine x_Vi (μ := m_X6_orderAt) (pc := 41) dX6_orderAt_41 h k_X6_fails ml_X6_174 ⟨Nat.le_of_ble_eq_true rfl, Nat.le_of_ble_eq_true rfl⟩ ⟨rfl, rfl⟩ ⟨Nat.zero_le _, Nat.zero_le _⟩ rfl (LM_ob hM) rfl (Nat.le_of_ble_eq_true rfl) _ rfl (fun z27 I28 h => ?_)
      obtain ⟨hr29, h⟩ := h
      obtain ⟨hA30, hB31⟩ := h
      refine x_if_eq (pc := 44) 51 dX6_orderAt_44 (by decide) hr29 (fun hc => ?_) (fun hc => ?_)
      · have h := hA30 hc
        refine x_aload_n (pc := 51) 0 dX6_orderAt_51 rfl ?_
        refine x_getP (pc := 52) dX6_orderAt_52 FC6 8 (by decide) rfl fl_X6_17 (LM_ob hM) (LM_p8 hM) ?_
        refine x_iload_n (pc := 55) 1 dX6_orderAt_55 rfl ?_
        refine x_Si (μ := m_X6_orderAt) (pc := 56) dX6_orderAt_56 h k_X6_machine ml_X6_158 ⟨Nat.le_of_ble_eq_true rfl, Nat.le_of_ble_eq_true rfl⟩ ⟨rfl, rfl⟩ ⟨Nat.zero_le _, Nat.zero_le _⟩ rfl (Nat.le_of_ble_eq_true rfl) _ rfl (fun z32 I33 h => ?_)
        refine x_iconst (pc := 59) dX6_orderAt_59 ?_
        refine x_iadd (pc := 60) dX6_orderAt_60 ?_
        refine x_iload_n (pc := 61) 2 dX6_orderAt_61 rfl ?_
        refine x_iadd (pc := 62) dX6_orderAt_62 ?_
        obtain ⟨hv34, h⟩ := h
        obtain ⟨hv35, h⟩ := h
        refine x_iald (pc := 63) dX6_orderAt_63 (LM_a8 hM) hv34 hv35 (by decide) ?_
        refine x_Si (μ := m_X6_orderAt) (pc := 64) dX6_orderAt_64 h k_X6_told ml_X6_282 ⟨Nat.le_of_ble_eq_true rfl, Nat.le_of_ble_eq_true rfl⟩ ⟨rfl, rfl⟩ ⟨Nat.zero_le _, Nat.zero_le _⟩ rfl (Nat.le_of_ble_eq_true rfl) _ rfl (fun z36 I37 h => ?_)
        exact x_iret (pc := 67) dX6_orderAt_67 rfl (Nat.le_refl _) (Nat.le_refl _) ⟨_, rfl, rfl, h⟩
      · have h := hB31 hc
        refine x_iconst (pc := 47) dX6_orderAt_47 ?_
        refine x_goto (pc := 48) 67 dX6_orderAt_48 (by decide) ?_
        exact x_iret (pc := 67) dX6_orderAt_67 rfl (Nat.le_refl _) (Nat.le_refl _) ⟨_, rfl, rfl, h⟩
set_option maxRecDepth 100000 in
set_option maxHeartbeats 4000000 in
theorem t_X6_start_0 {Γ : GG} {P : MP} {I : MM} {R : Int → MM → Prop} {x1 x2 : Int} (hM : LM Γ P)
    (h : (∀ I1 : MM, I1 = up2 I 1 0 0 → (Cl Γ m_X6_noOperation [vR 1, vI x1, vI x2] P I1 (ri P (fun (z2 : Int) (I3 : MM) => (inR z2) ∧ ((z2 ≠ 0 → R 0 I3) ∧ (z2 = 0 → (Cl Γ m_X6_findStarts [vR 1] P I3 (ri P (fun (z7 : Int) (I8 : MM) => (inR z7) ∧ ((z7 ≠ 0 → (0 ≤ ((6 * x1) + x2)) ∧ (((6 * x1) + x2) < 36) ∧ R (I8 9 (((6 * x1) + x2)).toNat) I8) ∧ (z7 = 0 → R 0 I8)))))))))))) :
    XM Γ m_X6_start 0 0 0 [(0, vR 1), (1, vI x1), (2, vI x2)] [] P I (ri P R) := by
  refine x_aload_n (pc := 0) 0 dX6_start_0 rfl ?_
  refine x_iconst (pc := 1) dX6_start_1 ?_
  refine x_putI (pc := 2) dX6_start_2 FC6 0 (by decide) rfl rfl fl_X6_51 (LM_ob hM) ?_
  refine x_nmI (fun I1 eI1 => ?_)
  have h := h I1 eI1
  refine x_aload_n (pc := 5) 0 dX6_start_5 rfl ?_
  refine x_iload_n (pc := 6) 1 dX6_start_6 rfl ?_
  refine x_iload_n (pc := 7) 2 dX6_start_7 rfl ?_
  refine x_Vi (μ := m_X6_start) (pc := 8) dX6_start_8 h k_X6_noOperation ml_X6_275 ⟨Nat.le_of_ble_eq_true rfl, Nat.le_of_ble_eq_true rfl⟩ ⟨rfl, rfl⟩ ⟨Nat.zero_le _, Nat.zero_le _⟩ rfl (LM_ob hM) rfl (Nat.le_of_ble_eq_true rfl) _ rfl (fun z2 I3 h => ?_)
  obtain ⟨hr4, h⟩ := h
  obtain ⟨hA5, hB6⟩ := h
  refine x_if_ne (pc := 11) 21 dX6_start_11 (by decide) hr4 (fun hc => ?_) (fun hc => ?_)
  · have h := hA5 hc
    refine x_iconst (pc := 21) dX6_start_21 ?_
    refine x_goto (pc := 22) 36 dX6_start_22 (by decide) ?_
    exact x_iret (pc := 36) dX6_start_36 rfl (Nat.le_refl _) (Nat.le_refl _) ⟨_, rfl, rfl, h⟩
  · have h := hB6 hc
    refine x_aload_n (pc := 14) 0 dX6_start_14 rfl ?_
    refine x_Vi (μ := m_X6_start) (pc := 15) dX6_start_15 h k_X6_findStarts ml_X6_217 ⟨Nat.le_of_ble_eq_true rfl, Nat.le_of_ble_eq_true rfl⟩ ⟨rfl, rfl⟩ ⟨Nat.zero_le _, Nat.zero_le _⟩ rfl (LM_ob hM) rfl (Nat.le_of_ble_eq_true rfl) _ rfl (fun z7 I8 h => ?_)
    obtain ⟨hr9, h⟩ := h
    obtain ⟨hA10, hB11⟩ := h
    refine x_if_ne (pc := 18) 25 dX6_start_18 (by decide) hr9 (fun hc => ?_) (fun hc => ?_)
    · have h := hA10 hc
      refine x_aload_n (pc := 25) 0 dX6_start_25 rfl ?_
      refine x_getP (pc := 26) dX6_start_26 FC6 18 (by decide) rfl fl_X6_37 (LM_ob hM) (LM_p18 hM) ?_
      refine x_bipush (pc := 29) dX6_start_29 rfl ?_
      refine x_iload_n (pc := 31) 1 dX6_start_31 rfl ?_
      refine x_imul (pc := 32) dX6_start_32 ?_
      refine x_iload_n (pc := 33) 2 dX6_start_33 rfl ?_
      refine x_iadd (pc := 34) dX6_start_34 ?_
      obtain ⟨hv12, h⟩ := h
      obtain ⟨hv13, h⟩ := h
      refine x_iald (pc := 35) dX6_start_35 (LM_a18 hM) hv12 hv13 (by decide) ?_
      exact x_iret (pc := 36) dX6_start_36 rfl (Nat.le_refl _) (Nat.le_refl _) ⟨_, rfl, rfl, h⟩
    · have h := hB11 hc
      refine x_iconst (pc := 21) dX6_start_21 ?_
      refine x_goto (pc := 22) 36 dX6_start_22 (by decide) ?_
      exact x_iret (pc := 36) dX6_start_36 rfl (Nat.le_refl _) (Nat.le_refl _) ⟨_, rfl, rfl, h⟩
set_option maxRecDepth 100000 in
set_option maxHeartbeats 4000000 in
theorem t_X6_leave_0 {Γ : GG} {P : MP} {I : MM} {R : Int → MM → Prop} {x1 x2 : Int} (hM : LM Γ P)
    (h : (∀ I1 : MM, I1 = up2 I 1 0 0 → (Cl Γ m_X6_noOperation [vR 1, vI x1, vI x2] P I1 (ri P (fun (z2 : Int) (I3 : MM) => (inR z2) ∧ ((z2 ≠ 0 → R 0 I3) ∧ (z2 = 0 → (Cl Γ m_X6_findStarts [vR 1] P I3 (ri P (fun (z7 : Int) (I8 : MM) => (inR z7) ∧ ((z7 ≠ 0 → (Cl Γ m_X6_leaveOf [vR 1, vI ((6 * x1) + x2)] P I8 (ri P (fun (z12 : Int) (I13 : MM) => R z12 I13)))) ∧ (z7 = 0 → R 0 I8)))))))))))) :
    XM Γ m_X6_leave 0 0 0 [(0, vR 1), (1, vI x1), (2, vI x2)] [] P I (ri P R) := by
  refine x_aload_n (pc := 0) 0 dX6_leave_0 rfl ?_
  refine x_iconst (pc := 1) dX6_leave_1 ?_
  refine x_putI (pc := 2) dX6_leave_2 FC6 0 (by decide) rfl rfl fl_X6_51 (LM_ob hM) ?_
  refine x_nmI (fun I1 eI1 => ?_)
  have h := h I1 eI1
  refine x_aload_n (pc := 5) 0 dX6_leave_5 rfl ?_
  refine x_iload_n (pc := 6) 1 dX6_leave_6 rfl ?_
  refine x_iload_n (pc := 7) 2 dX6_leave_7 rfl ?_
  refine x_Vi (μ := m_X6_leave) (pc := 8) dX6_leave_8 h k_X6_noOperation ml_X6_275 ⟨Nat.le_of_ble_eq_true rfl, Nat.le_of_ble_eq_true rfl⟩ ⟨rfl, rfl⟩ ⟨Nat.zero_le _, Nat.zero_le _⟩ rfl (LM_ob hM) rfl (Nat.le_of_ble_eq_true rfl) _ rfl (fun z2 I3 h => ?_)
  obtain ⟨hr4, h⟩ := h
  obtain ⟨hA5, hB6⟩ := h
  refine x_if_ne (pc := 11) 21 dX6_leave_11 (by decide) hr4 (fun hc => ?_) (fun hc => ?_)
  · have h := hA5 hc
    refine x_iconst (pc := 21) dX6_leave_21 ?_
    refine x_goto (pc := 22) 35 dX6_leave_22 (by decide) ?_
    exact x_iret (pc := 35) dX6_leave_35 rfl (Nat.le_refl _) (Nat.le_refl _) ⟨_, rfl, rfl, h⟩
  · have h := hB6 hc
    refine x_aload_n (pc := 14) 0 dX6_leave_14 rfl ?_
    refine x_Vi (μ := m_X6_leave) (pc := 15) dX6_leave_15 h k_X6_findStarts ml_X6_217 ⟨Nat.le_of_ble_eq_true rfl, Nat.le_of_ble_eq_true rfl⟩ ⟨rfl, rfl⟩ ⟨Nat.zero_le _, Nat.zero_le _⟩ rfl (LM_ob hM) rfl (Nat.le_of_ble_eq_true rfl) _ rfl (fun z7 I8 h => ?_)
    obtain ⟨hr9, h⟩ := h
    obtain ⟨hA10, hB11⟩ := h
    refine x_if_ne (pc := 18) 25 dX6_leave_18 (by decide) hr9 (fun hc => ?_) (fun hc => ?_)
    · have h := hA10 hc
      refine x_aload_n (pc := 25) 0 dX6_leave_25 rfl ?_
      refine x_bipush (pc := 26) dX6_leave_26 rfl ?_
      refine x_iload_n (pc := 28) 1 dX6_leave_28 rfl ?_
      refine x_imul (pc := 29) dX6_leave_29 ?_
      refine x_iload_n (pc := 30) 2 dX6_leave_30 rfl ?_
      refine x_iadd (pc := 31) dX6_leave_31 ?_
      refine x_Vi (μ := m_X6_leave) (pc := 32) dX6_leave_32 h k_X6_leaveOf ml_X6_285 ⟨Nat.le_of_ble_eq_true rfl, Nat.le_of_ble_eq_true rfl⟩ ⟨rfl, rfl⟩ ⟨Nat.zero_le _, Nat.zero_le _⟩ rfl (LM_ob hM) rfl (Nat.le_of_ble_eq_true rfl) _ rfl (fun z12 I13 h => ?_)
      exact x_iret (pc := 35) dX6_leave_35 rfl (Nat.le_refl _) (Nat.le_refl _) ⟨_, rfl, rfl, h⟩
    · have h := hB11 hc
      refine x_iconst (pc := 21) dX6_leave_21 ?_
      refine x_goto (pc := 22) 35 dX6_leave_22 (by decide) ?_
      exact x_iret (pc := 35) dX6_leave_35 rfl (Nat.le_refl _) (Nat.le_refl _) ⟨_, rfl, rfl, h⟩
set_option maxRecDepth 100000 in
set_option maxHeartbeats 4000000 in
theorem t_X6_completion_0 {Γ : GG} {P : MP} {I : MM} {R : Int → MM → Prop} {x1 : Int} (hM : LM Γ P)
    (h : (∀ I1 : MM, I1 = up2 I 1 0 0 → (Cl Γ m_X6_noJob [vR 1, vI x1] P I1 (ri P (fun (z2 : Int) (I3 : MM) => (inR z2) ∧ ((z2 ≠ 0 → R 0 I3) ∧ (z2 = 0 → (Cl Γ m_X6_findStarts [vR 1] P I3 (ri P (fun (z7 : Int) (I8 : MM) => (inR z7) ∧ ((z7 ≠ 0 → (Cl Γ m_X6_completionOf [vR 1, vI x1] P I8 (ri P (fun (z12 : Int) (I13 : MM) => R z12 I13)))) ∧ (z7 = 0 → R 0 I8)))))))))))) :
    XM Γ m_X6_completion 0 0 0 [(0, vR 1), (1, vI x1)] [] P I (ri P R) := by
  refine x_aload_n (pc := 0) 0 dX6_completion_0 rfl ?_
  refine x_iconst (pc := 1) dX6_completion_1 ?_
  refine x_putI (pc := 2) dX6_completion_2 FC6 0 (by decide) rfl rfl fl_X6_51 (LM_ob hM) ?_
  refine x_nmI (fun I1 eI1 => ?_)
  have h := h I1 eI1
  refine x_aload_n (pc := 5) 0 dX6_completion_5 rfl ?_
  refine x_iload_n (pc := 6) 1 dX6_completion_6 rfl ?_
  refine x_Vi (μ := m_X6_completion) (pc := 7) dX6_completion_7 h k_X6_noJob ml_X6_269 ⟨Nat.le_of_ble_eq_true rfl, Nat.le_of_ble_eq_true rfl⟩ ⟨rfl, rfl⟩ ⟨Nat.zero_le _, Nat.zero_le _⟩ rfl (LM_ob hM) rfl (Nat.le_of_ble_eq_true rfl) _ rfl (fun z2 I3 h => ?_)
  obtain ⟨hr4, h⟩ := h
  obtain ⟨hA5, hB6⟩ := h
  refine x_if_ne (pc := 10) 20 dX6_completion_10 (by decide) hr4 (fun hc => ?_) (fun hc => ?_)
  · have h := hA5 hc
    refine x_iconst (pc := 20) dX6_completion_20 ?_
    refine x_goto (pc := 21) 29 dX6_completion_21 (by decide) ?_
    exact x_iret (pc := 29) dX6_completion_29 rfl (Nat.le_refl _) (Nat.le_refl _) ⟨_, rfl, rfl, h⟩
  · have h := hB6 hc
    refine x_aload_n (pc := 13) 0 dX6_completion_13 rfl ?_
    refine x_Vi (μ := m_X6_completion) (pc := 14) dX6_completion_14 h k_X6_findStarts ml_X6_217 ⟨Nat.le_of_ble_eq_true rfl, Nat.le_of_ble_eq_true rfl⟩ ⟨rfl, rfl⟩ ⟨Nat.zero_le _, Nat.zero_le _⟩ rfl (LM_ob hM) rfl (Nat.le_of_ble_eq_true rfl) _ rfl (fun z7 I8 h => ?_)
    obtain ⟨hr9, h⟩ := h
    obtain ⟨hA10, hB11⟩ := h
    refine x_if_ne (pc := 17) 24 dX6_completion_17 (by decide) hr9 (fun hc => ?_) (fun hc => ?_)
    · have h := hA10 hc
      refine x_aload_n (pc := 24) 0 dX6_completion_24 rfl ?_
      refine x_iload_n (pc := 25) 1 dX6_completion_25 rfl ?_
      refine x_Vi (μ := m_X6_completion) (pc := 26) dX6_completion_26 h k_X6_completionOf ml_X6_223 ⟨Nat.le_of_ble_eq_true rfl, Nat.le_of_ble_eq_true rfl⟩ ⟨rfl, rfl⟩ ⟨Nat.zero_le _, Nat.zero_le _⟩ rfl (LM_ob hM) rfl (Nat.le_of_ble_eq_true rfl) _ rfl (fun z12 I13 h => ?_)
      exact x_iret (pc := 29) dX6_completion_29 rfl (Nat.le_refl _) (Nat.le_refl _) ⟨_, rfl, rfl, h⟩
    · have h := hB11 hc
      refine x_iconst (pc := 20) dX6_completion_20 ?_
      refine x_goto (pc := 21) 29 dX6_completion_21 (by decide) ?_
      exact x_iret (pc := 29) dX6_completion_29 rfl (Nat.le_refl _) (Nat.le_refl _) ⟨_, rfl, rfl, h⟩
set_option maxRecDepth 100000 in
set_option maxHeartbeats 4000000 in
theorem t_X6_spanNow_0 {Γ : GG} {P : MP} {I : MM} {R : Int → MM → Prop} (hM : LM Γ P)
    (h : (Cl Γ m_X6_findStarts [vR 1] P I (ri P (fun (z1 : Int) (I2 : MM) => (inR z1) ∧ ((z1 = 0 → R 0 I2) ∧ (¬ z1 = 0 → (Cl Γ m_X6_makespanOf [vR 1] P I2 (ri P (fun (z6 : Int) (I7 : MM) => R z6 I7))))))))) :
    XM Γ m_X6_spanNow 0 0 0 [(0, vR 1)] [] P I (ri P R) := by
  refine x_aload_n (pc := 0) 0 dX6_spanNow_0 rfl ?_
  refine x_Vi (μ := m_X6_spanNow) (pc := 1) dX6_spanNow_1 h k_X6_findStarts ml_X6_217 ⟨Nat.le_of_ble_eq_true rfl, Nat.le_of_ble_eq_true rfl⟩ ⟨rfl, rfl⟩ ⟨Nat.zero_le _, Nat.zero_le _⟩ rfl (LM_ob hM) rfl (Nat.le_of_ble_eq_true rfl) _ rfl (fun z1 I2 h => ?_)
  obtain ⟨hr3, h⟩ := h
  obtain ⟨hA4, hB5⟩ := h
  refine x_if_eq (pc := 4) 14 dX6_spanNow_4 (by decide) hr3 (fun hc => ?_) (fun hc => ?_)
  · have h := hA4 hc
    refine x_iconst (pc := 14) dX6_spanNow_14 ?_
    exact x_iret (pc := 15) dX6_spanNow_15 rfl (Nat.le_refl _) (Nat.le_refl _) ⟨_, rfl, rfl, h⟩
  · have h := hB5 hc
    refine x_aload_n (pc := 7) 0 dX6_spanNow_7 rfl ?_
    refine x_Vi (μ := m_X6_spanNow) (pc := 8) dX6_spanNow_8 h k_X6_makespanOf ml_X6_247 ⟨Nat.le_of_ble_eq_true rfl, Nat.le_of_ble_eq_true rfl⟩ ⟨rfl, rfl⟩ ⟨Nat.zero_le _, Nat.zero_le _⟩ rfl (LM_ob hM) rfl (Nat.le_of_ble_eq_true rfl) _ rfl (fun z6 I7 h => ?_)
    refine x_goto (pc := 11) 15 dX6_spanNow_11 (by decide) ?_
    exact x_iret (pc := 15) dX6_spanNow_15 rfl (Nat.le_refl _) (Nat.le_refl _) ⟨_, rfl, rfl, h⟩
set_option maxRecDepth 100000 in
set_option maxHeartbeats 4000000 in
theorem t_X6_makespan_0 {Γ : GG} {P : MP} {I : MM} {R : Int → MM → Prop} (hM : LM Γ P)
    (h : (∀ I1 : MM, I1 = up2 I 1 0 0 → (Cl Γ m_X6_spanNow [vR 1] P I1 (ri P (fun (z2 : Int) (I3 : MM) => R z2 I3))))) :
    XM Γ m_X6_makespan 0 0 0 [(0, vR 1)] [] P I (ri P R) := by
  refine x_aload_n (pc := 0) 0 dX6_makespan_0 rfl ?_
  refine x_iconst (pc := 1) dX6_makespan_1 ?_
  refine x_putI (pc := 2) dX6_makespan_2 FC6 0 (by decide) rfl rfl fl_X6_51 (LM_ob hM) ?_
  refine x_nmI (fun I1 eI1 => ?_)
  have h := h I1 eI1
  refine x_aload_n (pc := 5) 0 dX6_makespan_5 rfl ?_
  refine x_Vi (μ := m_X6_makespan) (pc := 6) dX6_makespan_6 h k_X6_spanNow ml_X6_288 ⟨Nat.le_of_ble_eq_true rfl, Nat.le_of_ble_eq_true rfl⟩ ⟨rfl, rfl⟩ ⟨Nat.zero_le _, Nat.zero_le _⟩ rfl (LM_ob hM) rfl (Nat.le_of_ble_eq_true rfl) _ rfl (fun z2 I3 h => ?_)
  exact x_iret (pc := 9) dX6_makespan_9 rfl (Nat.le_refl _) (Nat.le_refl _) ⟨_, rfl, rfl, h⟩
set_option maxRecDepth 100000 in
set_option maxHeartbeats 4000000 in
theorem t_X6_jobCost_0 {Γ : GG} {P : MP} {I : MM} {R : Int → MM → Prop} {x1 : Int} (hM : LM Γ P)
    (h : (∀ I1 : MM, I1 = up2 I 1 0 0 → (Cl Γ m_X6_noJob [vR 1, vI x1] P I1 (ri P (fun (z2 : Int) (I3 : MM) => (inR z2) ∧ ((z2 ≠ 0 → R 0 I3) ∧ (z2 = 0 → (Cl Γ m_X6_findStarts [vR 1] P I3 (ri P (fun (z7 : Int) (I8 : MM) => (inR z7) ∧ ((z7 ≠ 0 → (Cl Γ m_X6_costOf [vR 1, vI x1] P I8 (ri P (fun (z12 : Int) (I13 : MM) => R z12 I13)))) ∧ (z7 = 0 → R 0 I8)))))))))))) :
    XM Γ m_X6_jobCost 0 0 0 [(0, vR 1), (1, vI x1)] [] P I (ri P R) := by
  refine x_aload_n (pc := 0) 0 dX6_jobCost_0 rfl ?_
  refine x_iconst (pc := 1) dX6_jobCost_1 ?_
  refine x_putI (pc := 2) dX6_jobCost_2 FC6 0 (by decide) rfl rfl fl_X6_51 (LM_ob hM) ?_
  refine x_nmI (fun I1 eI1 => ?_)
  have h := h I1 eI1
  refine x_aload_n (pc := 5) 0 dX6_jobCost_5 rfl ?_
  refine x_iload_n (pc := 6) 1 dX6_jobCost_6 rfl ?_
  refine x_Vi (μ := m_X6_jobCost) (pc := 7) dX6_jobCost_7 h k_X6_noJob ml_X6_269 ⟨Nat.le_of_ble_eq_true rfl, Nat.le_of_ble_eq_true rfl⟩ ⟨rfl, rfl⟩ ⟨Nat.zero_le _, Nat.zero_le _⟩ rfl (LM_ob hM) rfl (Nat.le_of_ble_eq_true rfl) _ rfl (fun z2 I3 h => ?_)
  obtain ⟨hr4, h⟩ := h
  obtain ⟨hA5, hB6⟩ := h
  refine x_if_ne (pc := 10) 20 dX6_jobCost_10 (by decide) hr4 (fun hc => ?_) (fun hc => ?_)
  · have h := hA5 hc
    refine x_iconst (pc := 20) dX6_jobCost_20 ?_
    refine x_goto (pc := 21) 29 dX6_jobCost_21 (by decide) ?_
    exact x_iret (pc := 29) dX6_jobCost_29 rfl (Nat.le_refl _) (Nat.le_refl _) ⟨_, rfl, rfl, h⟩
  · have h := hB6 hc
    refine x_aload_n (pc := 13) 0 dX6_jobCost_13 rfl ?_
    refine x_Vi (μ := m_X6_jobCost) (pc := 14) dX6_jobCost_14 h k_X6_findStarts ml_X6_217 ⟨Nat.le_of_ble_eq_true rfl, Nat.le_of_ble_eq_true rfl⟩ ⟨rfl, rfl⟩ ⟨Nat.zero_le _, Nat.zero_le _⟩ rfl (LM_ob hM) rfl (Nat.le_of_ble_eq_true rfl) _ rfl (fun z7 I8 h => ?_)
    obtain ⟨hr9, h⟩ := h
    obtain ⟨hA10, hB11⟩ := h
    refine x_if_ne (pc := 17) 24 dX6_jobCost_17 (by decide) hr9 (fun hc => ?_) (fun hc => ?_)
    · have h := hA10 hc
      refine x_aload_n (pc := 24) 0 dX6_jobCost_24 rfl ?_
      refine x_iload_n (pc := 25) 1 dX6_jobCost_25 rfl ?_
      refine x_Vi (μ := m_X6_jobCost) (pc := 26) dX6_jobCost_26 h k_X6_costOf ml_X6_238 ⟨Nat.le_of_ble_eq_true rfl, Nat.le_of_ble_eq_true rfl⟩ ⟨rfl, rfl⟩ ⟨Nat.zero_le _, Nat.zero_le _⟩ rfl (LM_ob hM) rfl (Nat.le_of_ble_eq_true rfl) _ rfl (fun z12 I13 h => ?_)
      exact x_iret (pc := 29) dX6_jobCost_29 rfl (Nat.le_refl _) (Nat.le_refl _) ⟨_, rfl, rfl, h⟩
    · have h := hB11 hc
      refine x_iconst (pc := 20) dX6_jobCost_20 ?_
      refine x_goto (pc := 21) 29 dX6_jobCost_21 (by decide) ?_
      exact x_iret (pc := 29) dX6_jobCost_29 rfl (Nat.le_refl _) (Nat.le_refl _) ⟨_, rfl, rfl, h⟩
set_option maxRecDepth 100000 in
set_option maxHeartbeats 4000000 in
theorem t_X6_planCost_0 {Γ : GG} {P : MP} {I : MM} {R : Int → MM → Prop} (hM : LM Γ P)
    (h : (∀ I1 : MM, I1 = up2 I 1 0 0 → (Cl Γ m_X6_findStarts [vR 1] P I1 (ri P (fun (z2 : Int) (I3 : MM) => (inR z2) ∧ ((z2 = 0 → R 0 I3) ∧ (¬ z2 = 0 → (Cl Γ m_X6_costOfPlan [vR 1] P I3 (ri P (fun (z7 : Int) (I8 : MM) => R z7 I8)))))))))) :
    XM Γ m_X6_planCost 0 0 0 [(0, vR 1)] [] P I (ri P R) := by
  refine x_aload_n (pc := 0) 0 dX6_planCost_0 rfl ?_
  refine x_iconst (pc := 1) dX6_planCost_1 ?_
  refine x_putI (pc := 2) dX6_planCost_2 FC6 0 (by decide) rfl rfl fl_X6_51 (LM_ob hM) ?_
  refine x_nmI (fun I1 eI1 => ?_)
  have h := h I1 eI1
  refine x_aload_n (pc := 5) 0 dX6_planCost_5 rfl ?_
  refine x_Vi (μ := m_X6_planCost) (pc := 6) dX6_planCost_6 h k_X6_findStarts ml_X6_217 ⟨Nat.le_of_ble_eq_true rfl, Nat.le_of_ble_eq_true rfl⟩ ⟨rfl, rfl⟩ ⟨Nat.zero_le _, Nat.zero_le _⟩ rfl (LM_ob hM) rfl (Nat.le_of_ble_eq_true rfl) _ rfl (fun z2 I3 h => ?_)
  obtain ⟨hr4, h⟩ := h
  obtain ⟨hA5, hB6⟩ := h
  refine x_if_eq (pc := 9) 19 dX6_planCost_9 (by decide) hr4 (fun hc => ?_) (fun hc => ?_)
  · have h := hA5 hc
    refine x_iconst (pc := 19) dX6_planCost_19 ?_
    exact x_iret (pc := 20) dX6_planCost_20 rfl (Nat.le_refl _) (Nat.le_refl _) ⟨_, rfl, rfl, h⟩
  · have h := hB6 hc
    refine x_aload_n (pc := 12) 0 dX6_planCost_12 rfl ?_
    refine x_Vi (μ := m_X6_planCost) (pc := 13) dX6_planCost_13 h k_X6_costOfPlan ml_X6_250 ⟨Nat.le_of_ble_eq_true rfl, Nat.le_of_ble_eq_true rfl⟩ ⟨rfl, rfl⟩ ⟨Nat.zero_le _, Nat.zero_le _⟩ rfl (LM_ob hM) rfl (Nat.le_of_ble_eq_true rfl) _ rfl (fun z7 I8 h => ?_)
    refine x_goto (pc := 16) 20 dX6_planCost_16 (by decide) ?_
    exact x_iret (pc := 20) dX6_planCost_20 rfl (Nat.le_refl _) (Nat.le_refl _) ⟨_, rfl, rfl, h⟩
set_option maxRecDepth 100000 in
set_option maxHeartbeats 4000000 in
theorem t_X6_blockedTime_0 {Γ : GG} {P : MP} {I : MM} {R : Int → MM → Prop} {x1 : Int} (hM : LM Γ P)
    (h : (∀ I1 : MM, I1 = up2 I 1 0 0 → (Cl Γ m_X6_noMachine [vR 1, vI x1] P I1 (ri P (fun (z2 : Int) (I3 : MM) => (inR z2) ∧ ((z2 ≠ 0 → R 0 I3) ∧ (z2 = 0 → (Cl Γ m_X6_findStarts [vR 1] P I3 (ri P (fun (z7 : Int) (I8 : MM) => (inR z7) ∧ ((z7 ≠ 0 → XM Γ m_X6_blockedTime 0 0 26 [(0, vR 1), (1, vI x1), (2, vI 0), (3, vI 0)] [] P I8 (ri P R)) ∧ (z7 = 0 → R 0 I8)))))))))))) :
    XM Γ m_X6_blockedTime 0 0 0 [(0, vR 1), (1, vI x1)] [] P I (ri P R) := by
  refine x_aload_n (pc := 0) 0 dX6_blockedTime_0 rfl ?_
  refine x_iconst (pc := 1) dX6_blockedTime_1 ?_
  refine x_putI (pc := 2) dX6_blockedTime_2 FC6 0 (by decide) rfl rfl fl_X6_51 (LM_ob hM) ?_
  refine x_nmI (fun I1 eI1 => ?_)
  have h := h I1 eI1
  refine x_aload_n (pc := 5) 0 dX6_blockedTime_5 rfl ?_
  refine x_iload_n (pc := 6) 1 dX6_blockedTime_6 rfl ?_
  refine x_Vi (μ := m_X6_blockedTime) (pc := 7) dX6_blockedTime_7 h k_X6_noMachine ml_X6_272 ⟨Nat.le_of_ble_eq_true rfl, Nat.le_of_ble_eq_true rfl⟩ ⟨rfl, rfl⟩ ⟨Nat.zero_le _, Nat.zero_le _⟩ rfl (LM_ob hM) rfl (Nat.le_of_ble_eq_true rfl) _ rfl (fun z2 I3 h => ?_)
  obtain ⟨hr4, h⟩ := h
  obtain ⟨hA5, hB6⟩ := h
  refine x_if_ne (pc := 10) 20 dX6_blockedTime_10 (by decide) hr4 (fun hc => ?_) (fun hc => ?_)
  · have h := hA5 hc
    refine x_iconst (pc := 20) dX6_blockedTime_20 ?_
    exact x_iret (pc := 21) dX6_blockedTime_21 rfl (Nat.le_refl _) (Nat.le_refl _) ⟨_, rfl, rfl, h⟩
  · have h := hB6 hc
    refine x_aload_n (pc := 13) 0 dX6_blockedTime_13 rfl ?_
    refine x_Vi (μ := m_X6_blockedTime) (pc := 14) dX6_blockedTime_14 h k_X6_findStarts ml_X6_217 ⟨Nat.le_of_ble_eq_true rfl, Nat.le_of_ble_eq_true rfl⟩ ⟨rfl, rfl⟩ ⟨Nat.zero_le _, Nat.zero_le _⟩ rfl (LM_ob hM) rfl (Nat.le_of_ble_eq_true rfl) _ rfl (fun z7 I8 h => ?_)
    obtain ⟨hr9, h⟩ := h
    obtain ⟨hA10, hB11⟩ := h
    refine x_if_ne (pc := 17) 22 dX6_blockedTime_17 (by decide) hr9 (fun hc => ?_) (fun hc => ?_)
    · have h := hA10 hc
      refine x_iconst (pc := 22) dX6_blockedTime_22 ?_
      refine x_istore_n (pc := 23) (al' := [(0, vR 1), (1, vI x1), (2, vI 0)]) dX6_blockedTime_23 rfl rfl (by decide) ?_
      refine x_iconst (pc := 24) dX6_blockedTime_24 ?_
      refine x_istore_n (pc := 25) (al' := [(0, vR 1), (1, vI x1), (2, vI 0), (3, vI 0)]) dX6_blockedTime_25 rfl rfl (by decide) ?_
      exact x_sub [0, 1, 2, 3] rfl h
    · have h := hB11 hc
      refine x_iconst (pc := 20) dX6_blockedTime_20 ?_
      exact x_iret (pc := 21) dX6_blockedTime_21 rfl (Nat.le_refl _) (Nat.le_refl _) ⟨_, rfl, rfl, h⟩
set_option maxRecDepth 100000 in
set_option maxHeartbeats 4000000 in
theorem t_X6_blockedTime_26 {Γ : GG} {P : MP} {I : MM} {R : Int → MM → Prop} {x1 x2 x3 : Int} (hM : LM Γ P)
    (h : (Cl Γ m_X6_machine [vI x1] P I (ri P (fun (z1 : Int) (I2 : MM) => (0 ≤ (z1 + 2)) ∧ ((z1 + 2) < 1655) ∧ (inR x3) ∧ (inR (I2 3 ((z1 + 2)).toNat)) ∧ (((I2 3 ((z1 + 2)).toNat) ≤ x3 → R x2 I2) ∧ (¬ (I2 3 ((z1 + 2)).toNat) ≤ x3 → (Cl Γ m_X6_machine [vI x1] P I2 (ri P (fun (z9 : Int) (I10 : MM) => (0 ≤ ((z9 + 3) + x3)) ∧ (((z9 + 3) + x3) < 1655) ∧ (∀ x13 : Int, x13 = (I10 3 (((z9 + 3) + x3)).toNat) → (Cl Γ m_X6_leaveOf [vR 1, vI x13] P I10 (ri P (fun (z14 : Int) (I15 : MM) => (0 ≤ x13) ∧ (x13 < 36) ∧ (Cl Γ m_X6_durationOf [vR 1, vI x13] P I15 (ri P (fun (z18 : Int) (I19 : MM) => (∀ x20 : Int, x20 = (x2 + ((z14 - (I15 9 (x13).toNat)) - z18)) → XM Γ m_X6_blockedTime 0 0 26 [(0, vR 1), (1, vI x1), (2, vI x20), (3, vI (x3 + 1))] [] P I19 (ri P R)))))))))))))))))) :
    XM Γ m_X6_blockedTime 0 0 26 [(0, vR 1), (1, vI x1), (2, vI x2), (3, vI x3)] [] P I (ri P R) := by
  refine x_iload_n (pc := 26) 3 dX6_blockedTime_26 rfl ?_
  refine x_aload_n (pc := 27) 0 dX6_blockedTime_27 rfl ?_
  refine x_getP (pc := 28) dX6_blockedTime_28 FC6 8 (by decide) rfl fl_X6_17 (LM_ob hM) (LM_p8 hM) ?_
  refine x_iload_n (pc := 31) 1 dX6_blockedTime_31 rfl ?_
  refine x_Si (μ := m_X6_blockedTime) (pc := 32) dX6_blockedTime_32 h k_X6_machine ml_X6_158 ⟨Nat.le_of_ble_eq_true rfl, Nat.le_of_ble_eq_true rfl⟩ ⟨rfl, rfl⟩ ⟨Nat.zero_le _, Nat.zero_le _⟩ rfl (Nat.le_of_ble_eq_true rfl) _ rfl (fun z1 I2 h => ?_)
  refine x_iconst (pc := 35) dX6_blockedTime_35 ?_
  refine x_iadd (pc := 36) dX6_blockedTime_36 ?_
  obtain ⟨hv3, h⟩ := h
  obtain ⟨hv4, h⟩ := h
  refine x_iald (pc := 37) dX6_blockedTime_37 (LM_a8 hM) hv3 hv4 (by decide) ?_
  obtain ⟨hr5, h⟩ := h
  obtain ⟨hr6, h⟩ := h
  obtain ⟨hA7, hB8⟩ := h
  refine x_icmp_ge (pc := 38) 86 dX6_blockedTime_38 (by decide) hr5 hr6 (fun hc => ?_) (fun hc => ?_)
  · have h := hA7 hc
    refine x_iload_n (pc := 86) 2 dX6_blockedTime_86 rfl ?_
    exact x_iret (pc := 87) dX6_blockedTime_87 rfl (Nat.le_refl _) (Nat.le_refl _) ⟨_, rfl, rfl, h⟩
  · have h := hB8 hc
    refine x_aload_n (pc := 41) 0 dX6_blockedTime_41 rfl ?_
    refine x_getP (pc := 42) dX6_blockedTime_42 FC6 8 (by decide) rfl fl_X6_17 (LM_ob hM) (LM_p8 hM) ?_
    refine x_iload_n (pc := 45) 1 dX6_blockedTime_45 rfl ?_
    refine x_Si (μ := m_X6_blockedTime) (pc := 46) dX6_blockedTime_46 h k_X6_machine ml_X6_158 ⟨Nat.le_of_ble_eq_true rfl, Nat.le_of_ble_eq_true rfl⟩ ⟨rfl, rfl⟩ ⟨Nat.zero_le _, Nat.zero_le _⟩ rfl (Nat.le_of_ble_eq_true rfl) _ rfl (fun z9 I10 h => ?_)
    refine x_iconst (pc := 49) dX6_blockedTime_49 ?_
    refine x_iadd (pc := 50) dX6_blockedTime_50 ?_
    refine x_iload_n (pc := 51) 3 dX6_blockedTime_51 rfl ?_
    refine x_iadd (pc := 52) dX6_blockedTime_52 ?_
    obtain ⟨hv11, h⟩ := h
    obtain ⟨hv12, h⟩ := h
    refine x_iald (pc := 53) dX6_blockedTime_53 (LM_a8 hM) hv11 hv12 (by decide) ?_
    refine x_nmT (fun x13 ex13 => ?_)
    have h := h x13 ex13
    refine x_istore (pc := 54) (al' := [(0, vR 1), (1, vI x1), (2, vI x2), (3, vI x3), (4, vI x13)]) dX6_blockedTime_54 rfl rfl (by decide) ?_
    refine x_iload_n (pc := 56) 2 dX6_blockedTime_56 rfl ?_
    refine x_aload_n (pc := 57) 0 dX6_blockedTime_57 rfl ?_
    refine x_iload (pc := 58) 4 dX6_blockedTime_58 rfl ?_
    refine x_Vi (μ := m_X6_blockedTime) (pc := 60) dX6_blockedTime_60 h k_X6_leaveOf ml_X6_285 ⟨Nat.le_of_ble_eq_true rfl, Nat.le_of_ble_eq_true rfl⟩ ⟨rfl, rfl⟩ ⟨Nat.zero_le _, Nat.zero_le _⟩ rfl (LM_ob hM) rfl (Nat.le_of_ble_eq_true rfl) _ rfl (fun z14 I15 h => ?_)
    refine x_aload_n (pc := 63) 0 dX6_blockedTime_63 rfl ?_
    refine x_getP (pc := 64) dX6_blockedTime_64 FC6 18 (by decide) rfl fl_X6_37 (LM_ob hM) (LM_p18 hM) ?_
    refine x_iload (pc := 67) 4 dX6_blockedTime_67 rfl ?_
    obtain ⟨hv16, h⟩ := h
    obtain ⟨hv17, h⟩ := h
    refine x_iald (pc := 69) dX6_blockedTime_69 (LM_a18 hM) hv16 hv17 (by decide) ?_
    refine x_isub (pc := 70) dX6_blockedTime_70 ?_
    refine x_aload_n (pc := 71) 0 dX6_blockedTime_71 rfl ?_
    refine x_iload (pc := 72) 4 dX6_blockedTime_72 rfl ?_
    refine x_Vi (μ := m_X6_blockedTime) (pc := 74) dX6_blockedTime_74 h k_X6_durationOf ml_X6_202 ⟨Nat.le_of_ble_eq_true rfl, Nat.le_of_ble_eq_true rfl⟩ ⟨rfl, rfl⟩ ⟨Nat.zero_le _, Nat.zero_le _⟩ rfl (LM_ob hM) rfl (Nat.le_of_ble_eq_true rfl) _ rfl (fun z18 I19 h => ?_)
    refine x_isub (pc := 77) dX6_blockedTime_77 ?_
    refine x_iadd (pc := 78) dX6_blockedTime_78 ?_
    refine x_nmT (fun x20 ex20 => ?_)
    have h := h x20 ex20
    refine x_istore_n (pc := 79) (al' := [(0, vR 1), (1, vI x1), (2, vI x20), (3, vI x3), (4, vI x13)]) dX6_blockedTime_79 rfl rfl (by decide) ?_
    refine x_iinc (pc := 80) (al' := [(0, vR 1), (1, vI x1), (2, vI x20), (3, vI (x3 + 1)), (4, vI x13)]) 3 dX6_blockedTime_80 rfl rfl rfl (by decide) ?_
    refine x_goto (pc := 83) 26 dX6_blockedTime_83 (by decide) ?_
    exact x_sub [0, 1, 2, 3] rfl h
