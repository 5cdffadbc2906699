set_option maxRecDepth 100000 in
set_option maxHeartbeats 4000000 in
theorem t_X6_readMachine_0 {Γ : GG} {P : MP} {I : MM} {R : MM → Prop} (hM : LM Γ P)
    (h : (Cl Γ m_X6_number [vR 1, vI 0, vI ((I 4 0) - 1)] P I (ri P (fun (z1 : Int) (I2 : MM) => (Cl Γ m_X6_number [vR 1, vI 0, vI 1] P I2 (ri P (fun (z3 : Int) (I4 : MM) => (Cl Γ m_X6_number [vR 1, vI 0, vI 99] P I4 (ri P (fun (z5 : Int) (I6 : MM) => (Cl Γ m_X6_isGood [vR 1] P I6 (ri P (fun (z7 : Int) (I8 : MM) => (inR z7) ∧ ((z7 ≠ 0 → (Cl Γ m_X6_machine [vI z1] P I8 (ri P (fun (z12 : Int) (I13 : MM) => (0 ≤ z12) ∧ (z12 < 1655) ∧ (∀ I16 : MM, I16 = up2 I13 4 (z12).toNat (1 - z3) → (Cl Γ m_X6_machine [vI z1] P I16 (ri P (fun (z17 : Int) (I18 : MM) => (0 ≤ (z17 + 1)) ∧ ((z17 + 1) < 1655) ∧ (∀ I21 : MM, I21 = up2 I18 4 ((z17 + 1)).toNat z5 → R I21))))))))) ∧ (z7 = 0 → R I8))))))))))))))) :
    XM Γ m_X6_readMachine 0 0 0 [(0, vR 1)] [] P I (rv P R) := by
  refine x_aload_n (pc := 0) 0 dX6_readMachine_0 rfl ?_
  refine x_iconst (pc := 1) dX6_readMachine_1 ?_
  refine x_aload_n (pc := 2) 0 dX6_readMachine_2 rfl ?_
  refine x_getP (pc := 3) dX6_readMachine_3 FC6 9 (by decide) rfl fl_X6_20 (LM_ob hM) (LM_p9 hM) ?_
  refine x_iconst (pc := 6) dX6_readMachine_6 ?_
  refine x_iald (pc := 7) dX6_readMachine_7 (LM_a9 hM) (by decide) (by decide) (by decide) ?_
  refine x_iconst (pc := 8) dX6_readMachine_8 ?_
  refine x_isub (pc := 9) dX6_readMachine_9 ?_
  refine x_Vi (μ := m_X6_readMachine) (pc := 10) dX6_readMachine_10 h k_X6_number ml_X6_132 ⟨Nat.le_of_ble_eq_true rfl, Nat.le_of_ble_eq_true rfl⟩ ⟨rfl, rfl⟩ ⟨Nat.zero_le _, Nat.zero_le _⟩ rfl (LM_ob hM) rfl (Nat.le_of_ble_eq_true rfl) _ rfl (fun z1 I2 h => ?_)
  refine x_istore_n (pc := 13) (al' := [(0, vR 1), (1, vI z1)]) dX6_readMachine_13 rfl rfl (Nat.le_of_ble_eq_true rfl) ?_
  refine x_aload_n (pc := 14) 0 dX6_readMachine_14 rfl ?_
  refine x_iconst (pc := 15) dX6_readMachine_15 ?_
  refine x_iconst (pc := 16) dX6_readMachine_16 ?_
  refine x_Vi (μ := m_X6_readMachine) (pc := 17) dX6_readMachine_17 h k_X6_number ml_X6_132 ⟨Nat.le_of_ble_eq_true rfl, Nat.le_of_ble_eq_true rfl⟩ ⟨rfl, rfl⟩ ⟨Nat.zero_le _, Nat.zero_le _⟩ rfl (LM_ob hM) rfl (Nat.le_of_ble_eq_true rfl) _ rfl (fun z3 I4 h => ?_)
  refine x_istore_n (pc := 20) (al' := [(0, vR 1), (1, vI z1), (2, vI z3)]) dX6_readMachine_20 rfl rfl (Nat.le_of_ble_eq_true rfl) ?_
  refine x_aload_n (pc := 21) 0 dX6_readMachine_21 rfl ?_
  refine x_iconst (pc := 22) dX6_readMachine_22 ?_
  refine x_bipush (pc := 23) dX6_readMachine_23 rfl ?_
  refine x_Vi (μ := m_X6_readMachine) (pc := 25) dX6_readMachine_25 h k_X6_number ml_X6_132 ⟨Nat.le_of_ble_eq_true rfl, Nat.le_of_ble_eq_true rfl⟩ ⟨rfl, rfl⟩ ⟨Nat.zero_le _, Nat.zero_le _⟩ rfl (LM_ob hM) rfl (Nat.le_of_ble_eq_true rfl) _ rfl (fun z5 I6 h => ?_)
  refine x_istore_n (pc := 28) (al' := [(0, vR 1), (1, vI z1), (2, vI z3), (3, vI z5)]) dX6_readMachine_28 rfl rfl (Nat.le_of_ble_eq_true rfl) ?_
  refine x_aload_n (pc := 29) 0 dX6_readMachine_29 rfl ?_
  refine x_Vi (μ := m_X6_readMachine) (pc := 30) dX6_readMachine_30 h k_X6_isGood ml_X6_77 ⟨Nat.le_of_ble_eq_true rfl, Nat.le_of_ble_eq_true rfl⟩ ⟨rfl, rfl⟩ ⟨Nat.zero_le _, Nat.zero_le _⟩ rfl (LM_ob hM) rfl (Nat.le_of_ble_eq_true rfl) _ rfl (fun z7 I8 h => ?_)
  obtain ⟨hr9, h⟩ := h
  obtain ⟨hA10, hB11⟩ := h
  refine x_if_ne (pc := 33) 37 dX6_readMachine_33 (by decide) hr9 (fun hc => ?_) (fun hc => ?_)
  · have h := hA10 hc
    refine x_aload_n (pc := 37) 0 dX6_readMachine_37 rfl ?_
    refine x_getP (pc := 38) dX6_readMachine_38 FC6 9 (by decide) rfl fl_X6_20 (LM_ob hM) (LM_p9 hM) ?_
    refine x_iload_n (pc := 41) 1 dX6_readMachine_41 rfl ?_
    refine x_Si (μ := m_X6_readMachine) (pc := 42) dX6_readMachine_42 h k_X6_machine ml_X6_158 ⟨Nat.le_of_ble_eq_true rfl, Nat.le_of_ble_eq_true rfl⟩ ⟨rfl, rfl⟩ ⟨Nat.zero_le _, Nat.zero_le _⟩ rfl (Nat.le_of_ble_eq_true rfl) _ rfl (fun z12 I13 h => ?_)
    refine x_iconst (pc := 45) dX6_readMachine_45 ?_
    refine x_iload_n (pc := 46) 2 dX6_readMachine_46 rfl ?_
    refine x_isub (pc := 47) dX6_readMachine_47 ?_
    obtain ⟨hv14, h⟩ := h
    obtain ⟨hv15, h⟩ := h
    refine x_iast (pc := 48) dX6_readMachine_48 (LM_a9 hM) hv14 hv15 (by decide) ?_
    refine x_nmI (fun I16 eI16 => ?_)
    have h := h I16 eI16
    refine x_aload_n (pc := 49) 0 dX6_readMachine_49 rfl ?_
    refine x_getP (pc := 50) dX6_readMachine_50 FC6 9 (by decide) rfl fl_X6_20 (LM_ob hM) (LM_p9 hM) ?_
    refine x_iload_n (pc := 53) 1 dX6_readMachine_53 rfl ?_
    refine x_Si (μ := m_X6_readMachine) (pc := 54) dX6_readMachine_54 h k_X6_machine ml_X6_158 ⟨Nat.le_of_ble_eq_true rfl, Nat.le_of_ble_eq_true rfl⟩ ⟨rfl, rfl⟩ ⟨Nat.zero_le _, Nat.zero_le _⟩ rfl (Nat.le_of_ble_eq_true rfl) _ rfl (fun z17 I18 h => ?_)
    refine x_iconst (pc := 57) dX6_readMachine_57 ?_
    refine x_iadd (pc := 58) dX6_readMachine_58 ?_
    refine x_iload_n (pc := 59) 3 dX6_readMachine_59 rfl ?_
    obtain ⟨hv19, h⟩ := h
    obtain ⟨hv20, h⟩ := h
    refine x_iast (pc := 60) dX6_readMachine_60 (LM_a9 hM) hv19 hv20 (by decide) ?_
    refine x_nmI (fun I21 eI21 => ?_)
    have h := h I21 eI21
    exact x_vret (pc := 61) dX6_readMachine_61 rfl (Nat.le_refl _) (Nat.le_refl _) ⟨rfl, rfl, h⟩
  · have h := hB11 hc
    exact x_vret (pc := 36) dX6_readMachine_36 rfl (Nat.le_refl _) (Nat.le_refl _) ⟨rfl, rfl, h⟩
set_option maxRecDepth 100000 in
set_option maxHeartbeats 4000000 in
theorem t_X6_statement_0 {Γ : GG} {P : MP} {I : MM} {R : MM → Prop} (hM : LM Γ P)
    (h : (Cl Γ m_X6_next [vR 1] P I (ri P (fun (z1 : Int) (I2 : MM) => (∀ u3 : Int, u3 = (I2 1 4) → (Cl Γ m_X6_takeWord [vR 1, vR (500 + 3)] P I2 (ri P (fun (z4 : Int) (I5 : MM) => (inR z4) ∧ ((z4 = 0 → (Cl Γ m_X6_takeWord [vR 1, vR (500 + 4)] P I5 (ri P (fun (z9 : Int) (I10 : MM) => (inR z9) ∧ ((z9 = 0 → (Cl Γ m_X6_takeWord [vR 1, vR (500 + 1)] P I10 (ri P (fun (z14 : Int) (I15 : MM) => (inR z14) ∧ ((z14 = 0 → (Cl Γ m_X6_report [vR 1, vI (-2), vI u3] P I15 (rv P (fun (I19 : MM) => (Cl Γ m_X6_expect [vR 1, vI 59] P I19 (rv P (fun (I20 : MM) => R I20))))))) ∧ (¬ z14 = 0 → (Cl Γ m_X6_once [vR 1, vI 0, vI u3] P I15 (rv P (fun (I21 : MM) => (∀ I22 : MM, I22 = up2 I21 4 3 1 → (Cl Γ (m_X6_sum 6) [vR 1] P I22 (rv P (fun (I23 : MM) => (Cl Γ m_X6_expect [vR 1, vI 59] P I23 (rv P (fun (I24 : MM) => R I24)))))))))))))))) ∧ (¬ z9 = 0 → (Cl Γ m_X6_readMachine [vR 1] P I10 (rv P (fun (I25 : MM) => (Cl Γ m_X6_expect [vR 1, vI 59] P I25 (rv P (fun (I26 : MM) => R I26)))))))))))) ∧ (¬ z4 = 0 → (Cl Γ m_X6_readJob [vR 1, vI u3] P I5 (rv P (fun (I27 : MM) => (Cl Γ m_X6_expect [vR 1, vI 59] P I27 (rv P (fun (I28 : MM) => R I28)))))))))))))))) :
    XM Γ m_X6_statement 0 0 0 [(0, vR 1)] [] P I (rv P R) := by
  refine x_aload_n (pc := 0) 0 dX6_statement_0 rfl ?_
  refine x_Vi (μ := m_X6_statement) (pc := 1) dX6_statement_1 h k_X6_next ml_X6_81 ⟨Nat.le_of_ble_eq_true rfl, Nat.le_of_ble_eq_true rfl⟩ ⟨rfl, rfl⟩ ⟨Nat.zero_le _, Nat.zero_le _⟩ rfl (LM_ob hM) rfl (Nat.le_of_ble_eq_true rfl) _ rfl (fun z1 I2 h => ?_)
  refine x_pop (pc := 4) dX6_statement_4 rfl ?_
  refine x_aload_n (pc := 5) 0 dX6_statement_5 rfl ?_
  refine x_getI (pc := 6) dX6_statement_6 FC6 4 (by decide) rfl fl_X6_60 (LM_ob hM) ?_
  refine x_nmT (fun u3 eu3 => ?_)
  have h := h u3 eu3
  refine x_istore_n (pc := 9) (al' := [(0, vR 1), (1, vI u3)]) dX6_statement_9 rfl rfl (Nat.le_of_ble_eq_true rfl) ?_
  refine x_aload_n (pc := 10) 0 dX6_statement_10 rfl ?_
  refine x_ldcS (pc := 11) "job" 3 dX6_statement_11 oc_X6_161 ?_
  refine x_Vi (μ := m_X6_statement) (pc := 13) dX6_statement_13 h k_X6_takeWord ml_X6_122 ⟨Nat.le_of_ble_eq_true rfl, Nat.le_of_ble_eq_true rfl⟩ ⟨rfl, rfl⟩ ⟨Nat.zero_le _, Nat.zero_le _⟩ rfl (LM_ob hM) rfl (Nat.le_of_ble_eq_true rfl) _ rfl (fun z4 I5 h => ?_)
  obtain ⟨hr6, h⟩ := h
  obtain ⟨hA7, hB8⟩ := h
  refine x_if_eq (pc := 16) 27 dX6_statement_16 (by decide) hr6 (fun hc => ?_) (fun hc => ?_)
  · have h := hA7 hc
    refine x_aload_n (pc := 27) 0 dX6_statement_27 rfl ?_
    refine x_ldcS (pc := 28) "machine" 4 dX6_statement_28 oc_X6_165 ?_
    refine x_Vi (μ := m_X6_statement) (pc := 30) dX6_statement_30 h k_X6_takeWord ml_X6_122 ⟨Nat.le_of_ble_eq_true rfl, Nat.le_of_ble_eq_true rfl⟩ ⟨rfl, rfl⟩ ⟨Nat.zero_le _, Nat.zero_le _⟩ rfl (LM_ob hM) rfl (Nat.le_of_ble_eq_true rfl) _ rfl (fun z9 I10 h => ?_)
    obtain ⟨hr11, h⟩ := h
    obtain ⟨hA12, hB13⟩ := h
    refine x_if_eq (pc := 33) 43 dX6_statement_33 (by decide) hr11 (fun hc => ?_) (fun hc => ?_)
    · have h := hA12 hc
      refine x_aload_n (pc := 43) 0 dX6_statement_43 rfl ?_
      refine x_ldcS (pc := 44) "cost" 1 dX6_statement_44 oc_X6_169 ?_
      refine x_Vi (μ := m_X6_statement) (pc := 46) dX6_statement_46 h k_X6_takeWord ml_X6_122 ⟨Nat.le_of_ble_eq_true rfl, Nat.le_of_ble_eq_true rfl⟩ ⟨rfl, rfl⟩ ⟨Nat.zero_le _, Nat.zero_le _⟩ rfl (LM_ob hM) rfl (Nat.le_of_ble_eq_true rfl) _ rfl (fun z14 I15 h => ?_)
      obtain ⟨hr16, h⟩ := h
      obtain ⟨hA17, hB18⟩ := h
      refine x_if_eq (pc := 49) 72 dX6_statement_49 (by decide) hr16 (fun hc => ?_) (fun hc => ?_)
      · have h := hA17 hc
        refine x_aload_n (pc := 72) 0 dX6_statement_72 rfl ?_
        refine x_bipush (pc := 73) dX6_statement_73 rfl ?_
        refine x_iload_n (pc := 75) 1 dX6_statement_75 rfl ?_
        refine x_Vv (μ := m_X6_statement) (pc := 76) dX6_statement_76 h k_X6_report ml_X6_94 ⟨Nat.le_of_ble_eq_true rfl, Nat.le_of_ble_eq_true rfl⟩ ⟨rfl, rfl⟩ ⟨Nat.zero_le _, Nat.zero_le _⟩ rfl (LM_ob hM) rfl (Nat.le_of_ble_eq_true rfl) _ rfl (fun I19 h => ?_)
        refine x_aload_n (pc := 79) 0 dX6_statement_79 rfl ?_
        refine x_bipush (pc := 80) dX6_statement_80 rfl ?_
        refine x_Vv (μ := m_X6_statement) (pc := 82) dX6_statement_82 h k_X6_expect ml_X6_116 ⟨Nat.le_of_ble_eq_true rfl, Nat.le_of_ble_eq_true rfl⟩ ⟨rfl, rfl⟩ ⟨Nat.zero_le _, Nat.zero_le _⟩ rfl (LM_ob hM) rfl (Nat.le_of_ble_eq_true rfl) _ rfl (fun I20 h => ?_)
        exact x_vret (pc := 85) dX6_statement_85 rfl (Nat.le_refl _) (Nat.le_refl _) ⟨rfl, rfl, h⟩
      · have h := hB18 hc
        refine x_aload_n (pc := 52) 0 dX6_statement_52 rfl ?_
        refine x_iconst (pc := 53) dX6_statement_53 ?_
        refine x_iload_n (pc := 54) 1 dX6_statement_54 rfl ?_
        refine x_Vv (μ := m_X6_statement) (pc := 55) dX6_statement_55 h k_X6_once ml_X6_171 ⟨Nat.le_of_ble_eq_true rfl, Nat.le_of_ble_eq_true rfl⟩ ⟨rfl, rfl⟩ ⟨Nat.zero_le _, Nat.zero_le _⟩ rfl (LM_ob hM) rfl (Nat.le_of_ble_eq_true rfl) _ rfl (fun I21 h => ?_)
        refine x_aload_n (pc := 58) 0 dX6_statement_58 rfl ?_
        refine x_getP (pc := 59) dX6_statement_59 FC6 9 (by decide) rfl fl_X6_20 (LM_ob hM) (LM_p9 hM) ?_
        refine x_iconst (pc := 62) dX6_statement_62 ?_
        refine x_iconst (pc := 63) dX6_statement_63 ?_
        refine x_iast (pc := 64) dX6_statement_64 (LM_a9 hM) (by decide) (by decide) (by decide) ?_
        refine x_nmI (fun I22 eI22 => ?_)
        have h := h I22 eI22
        refine x_aload_n (pc := 65) 0 dX6_statement_65 rfl ?_
        refine x_Vv (μ := m_X6_statement) (pc := 66) dX6_statement_66 h k_X6_sum ml_X6_113 ⟨by show (3 * 6 + 10) + 1 ≤ 29; omega, by show 8 + (2 + 11) + 40 * (3 * 6 + 10) ≤ 1160; omega⟩ ⟨rfl, rfl⟩ ⟨Nat.zero_le _, Nat.zero_le _⟩ rfl (LM_ob hM) rfl (Nat.le_of_ble_eq_true rfl) _ rfl (fun I23 h => ?_)
        refine x_goto (pc := 69) 79 dX6_statement_69 (by decide) ?_
        refine x_aload_n (pc := 79) 0 dX6_statement_79 rfl ?_
        refine x_bipush (pc := 80) dX6_statement_80 rfl ?_
        refine x_Vv (μ := m_X6_statement) (pc := 82) dX6_statement_82 h k_X6_expect ml_X6_116 ⟨Nat.le_of_ble_eq_true rfl, Nat.le_of_ble_eq_true rfl⟩ ⟨rfl, rfl⟩ ⟨Nat.zero_le _, Nat.zero_le _⟩ rfl (LM_ob hM) rfl (Nat.le_of_ble_eq_true rfl) _ rfl (fun I24 h => ?_)
        exact x_vret (pc := 85) dX6_statement_85 rfl (Nat.le_refl _) (Nat.le_refl _) ⟨rfl, rfl, h⟩
    · have h := hB13 hc
      refine x_aload_n (pc := 36) 0 dX6_statement_36 rfl ?_
      refine x_Vv (μ := m_X6_statement) (pc := 37) dX6_statement_37 h k_X6_readMachine ml_X6_166 ⟨Nat.le_of_ble_eq_true rfl, Nat.le_of_ble_eq_true rfl⟩ ⟨rfl, rfl⟩ ⟨Nat.zero_le _, Nat.zero_le _⟩ rfl (LM_ob hM) rfl (Nat.le_of_ble_eq_true rfl) _ rfl (fun I25 h => ?_)
      refine x_goto (pc := 40) 79 dX6_statement_40 (by decide) ?_
      refine x_aload_n (pc := 79) 0 dX6_statement_79 rfl ?_
      refine x_bipush (pc := 80) dX6_statement_80 rfl ?_
      refine x_Vv (μ := m_X6_statement) (pc := 82) dX6_statement_82 h k_X6_expect ml_X6_116 ⟨Nat.le_of_ble_eq_true rfl, Nat.le_of_ble_eq_true rfl⟩ ⟨rfl, rfl⟩ ⟨Nat.zero_le _, Nat.zero_le _⟩ rfl (LM_ob hM) rfl (Nat.le_of_ble_eq_true rfl) _ rfl (fun I26 h => ?_)
      exact x_vret (pc := 85) dX6_statement_85 rfl (Nat.le_refl _) (Nat.le_refl _) ⟨rfl, rfl, h⟩
  · have h := hB8 hc
    refine x_aload_n (pc := 19) 0 dX6_statement_19 rfl ?_
    refine x_iload_n (pc := 20) 1 dX6_statement_20 rfl ?_
    refine x_Vv (μ := m_X6_statement) (pc := 21) dX6_statement_21 h k_X6_readJob ml_X6_162 ⟨Nat.le_of_ble_eq_true rfl, Nat.le_of_ble_eq_true rfl⟩ ⟨rfl, rfl⟩ ⟨Nat.zero_le _, Nat.zero_le _⟩ rfl (LM_ob hM) rfl (Nat.le_of_ble_eq_true rfl) _ rfl (fun I27 h => ?_)
    refine x_goto (pc := 24) 79 dX6_statement_24 (by decide) ?_
    refine x_aload_n (pc := 79) 0 dX6_statement_79 rfl ?_
    refine x_bipush (pc := 80) dX6_statement_80 rfl ?_
    refine x_Vv (μ := m_X6_statement) (pc := 82) dX6_statement_82 h k_X6_expect ml_X6_116 ⟨Nat.le_of_ble_eq_true rfl, Nat.le_of_ble_eq_true rfl⟩ ⟨rfl, rfl⟩ ⟨Nat.zero_le _, Nat.zero_le _⟩ rfl (LM_ob hM) rfl (Nat.le_of_ble_eq_true rfl) _ rfl (fun I28 h => ?_)
    exact x_vret (pc := 85) dX6_statement_85 rfl (Nat.le_refl _) (Nat.le_refl _) ⟨rfl, rfl, h⟩
set_option maxRecDepth 100000 in
set_option maxHeartbeats 4000000 in
theorem t_X6_load_0 {Γ : GG} {P : MP} {I : MM} {R : Int → MM → Prop} {x1 : Int} (hM : LM Γ P)
    (h : (∀ I1 : MM, I1 = up2 I 1 0 0 → (Cl Γ m_X6_in [vI x1, vI 0, vI (I1 1 2)] P I1 (ri P (fun (z2 : Int) (I3 : MM) => (inR z2) ∧ ((z2 ≠ 0 → (Cl Γ m_X6_fails [vR 1, vI 0, vI 1] P I3 (ri P (fun (z7 : Int) (I8 : MM) => (inR z7) ∧ ((z7 = 0 → (∀ I12 : MM, I12 = up2 I8 1 2 0 → (∀ I13 : MM, I13 = up2 I12 1 3 x1 → (∀ I14 : MM, I14 = up2 I13 1 4 0 → (∀ I15 : MM, I15 = up2 I14 1 5 0 → (∀ I16 : MM, I16 = up2 I15 1 6 (-1) → (∀ I17 : MM, I17 = up2 I16 1 14 0 → (∀ I18 : MM, I18 = up2 I17 1 15 0 → XM Γ m_X6_load 0 0 69 [(0, vR 1), (2, vI 0)] [] P I18 (ri P R))))))))) ∧ (¬ z7 = 0 → R 0 I8)))))) ∧ (z2 = 0 → (Cl Γ m_X6_fails [vR 1, vI 1, vI 1] P I3 (ri P (fun (z19 : Int) (I20 : MM) => (inR z19) ∧ ((z19 = 0 → (∀ I24 : MM, I24 = up2 I20 1 2 0 → (∀ I25 : MM, I25 = up2 I24 1 3 x1 → (∀ I26 : MM, I26 = up2 I25 1 4 0 → (∀ I27 : MM, I27 = up2 I26 1 5 0 → (∀ I28 : MM, I28 = up2 I27 1 6 (-1) → (∀ I29 : MM, I29 = up2 I28 1 14 0 → (∀ I30 : MM, I30 = up2 I29 1 15 0 → XM Γ m_X6_load 0 0 69 [(0, vR 1), (2, vI 0)] [] P I30 (ri P R))))))))) ∧ (¬ z19 = 0 → R 0 I20)))))))))))) :
    XM Γ m_X6_load 0 0 0 [(0, vR 1), (1, vI x1)] [] P I (ri P R) := by
  refine x_aload_n (pc := 0) 0 dX6_load_0 rfl ?_
  refine x_iconst (pc := 1) dX6_load_1 ?_
  refine x_putI (pc := 2) dX6_load_2 FC6 0 (by decide) rfl rfl fl_X6_51 (LM_ob hM) ?_
  refine x_nmI (fun I1 eI1 => ?_)
  have h := h I1 eI1
  refine x_aload_n (pc := 5) 0 dX6_load_5 rfl ?_
  refine x_iload_n (pc := 6) 1 dX6_load_6 rfl ?_
  refine x_iconst (pc := 7) dX6_load_7 ?_
  refine x_aload_n (pc := 8) 0 dX6_load_8 rfl ?_
  refine x_getI (pc := 9) dX6_load_9 FC6 2 (by decide) rfl fl_X6_54 (LM_ob hM) ?_
  refine x_Si (μ := m_X6_load) (pc := 12) dX6_load_12 h k_X6_in ml_X6_73 ⟨Nat.le_of_ble_eq_true rfl, Nat.le_of_ble_eq_true rfl⟩ ⟨rfl, rfl⟩ ⟨Nat.zero_le _, Nat.zero_le _⟩ rfl (Nat.le_of_ble_eq_true rfl) _ rfl (fun z2 I3 h => ?_)
  obtain ⟨hr4, h⟩ := h
  obtain ⟨hA5, hB6⟩ := h
  refine x_if_ne (pc := 15) 22 dX6_load_15 (by decide) hr4 (fun hc => ?_) (fun hc => ?_)
  · have h := hA5 hc
    refine x_iconst (pc := 22) dX6_load_22 ?_
    refine x_iconst (pc := 23) dX6_load_23 ?_
    refine x_Vi (μ := m_X6_load) (pc := 24) dX6_load_24 h k_X6_fails ml_X6_174 ⟨Nat.le_of_ble_eq_true rfl, Nat.le_of_ble_eq_true rfl⟩ ⟨rfl, rfl⟩ ⟨Nat.zero_le _, Nat.zero_le _⟩ rfl (LM_ob hM) rfl (Nat.le_of_ble_eq_true rfl) _ rfl (fun z7 I8 h => ?_)
    obtain ⟨hr9, h⟩ := h
    obtain ⟨hA10, hB11⟩ := h
    refine x_if_eq (pc := 27) 32 dX6_load_27 (by decide) hr9 (fun hc => ?_) (fun hc => ?_)
    · have h := hA10 hc
      refine x_aload_n (pc := 32) 0 dX6_load_32 rfl ?_
      refine x_iconst (pc := 33) dX6_load_33 ?_
      refine x_putI (pc := 34) dX6_load_34 FC6 2 (by decide) rfl rfl fl_X6_54 (LM_ob hM) ?_
      refine x_nmI (fun I12 eI12 => ?_)
      have h := h I12 eI12
      refine x_aload_n (pc := 37) 0 dX6_load_37 rfl ?_
      refine x_iload_n (pc := 38) 1 dX6_load_38 rfl ?_
      refine x_putI (pc := 39) dX6_load_39 FC6 3 (by decide) rfl rfl fl_X6_57 (LM_ob hM) ?_
      refine x_nmI (fun I13 eI13 => ?_)
      have h := h I13 eI13
      refine x_aload_n (pc := 42) 0 dX6_load_42 rfl ?_
      refine x_iconst (pc := 43) dX6_load_43 ?_
      refine x_putI (pc := 44) dX6_load_44 FC6 4 (by decide) rfl rfl fl_X6_60 (LM_ob hM) ?_
      refine x_nmI (fun I14 eI14 => ?_)
      have h := h I14 eI14
      refine x_aload_n (pc := 47) 0 dX6_load_47 rfl ?_
      refine x_iconst (pc := 48) dX6_load_48 ?_
      refine x_putI (pc := 49) dX6_load_49 FC6 5 (by decide) rfl rfl fl_X6_67 (LM_ob hM) ?_
      refine x_nmI (fun I15 eI15 => ?_)
      have h := h I15 eI15
      refine x_aload_n (pc := 52) 0 dX6_load_52 rfl ?_
      refine x_iconst (pc := 53) dX6_load_53 ?_
      refine x_putI (pc := 54) dX6_load_54 FC6 6 (by decide) rfl rfl fl_X6_70 (LM_ob hM) ?_
      refine x_nmI (fun I16 eI16 => ?_)
      have h := h I16 eI16
      refine x_aload_n (pc := 57) 0 dX6_load_57 rfl ?_
      refine x_iconst (pc := 58) dX6_load_58 ?_
      refine x_putI (pc := 59) dX6_load_59 FC6 14 (by decide) rfl rfl fl_X6_110 (LM_ob hM) ?_
      refine x_nmI (fun I17 eI17 => ?_)
      have h := h I17 eI17
      refine x_aload_n (pc := 62) 0 dX6_load_62 rfl ?_
      refine x_iconst (pc := 63) dX6_load_63 ?_
      refine x_putI (pc := 64) dX6_load_64 FC6 15 (by decide) rfl rfl fl_X6_144 (LM_ob hM) ?_
      refine x_nmI (fun I18 eI18 => ?_)
      have h := h I18 eI18
      refine x_iconst (pc := 67) dX6_load_67 ?_
      refine x_istore_n (pc := 68) (al' := [(0, vR 1), (1, vI x1), (2, vI 0)]) dX6_load_68 rfl rfl (Nat.le_of_ble_eq_true rfl) ?_
      exact x_sub [0, 2] rfl h
    · have h := hB11 hc
      refine x_iconst (pc := 30) dX6_load_30 ?_
      exact x_iret (pc := 31) dX6_load_31 rfl (Nat.le_refl _) (Nat.le_refl _) ⟨_, rfl, rfl, h⟩
  · have h := hB6 hc
    refine x_iconst (pc := 18) dX6_load_18 ?_
    refine x_goto (pc := 19) 23 dX6_load_19 (by decide) ?_
    refine x_iconst (pc := 23) dX6_load_23 ?_
    refine x_Vi (μ := m_X6_load) (pc := 24) dX6_load_24 h k_X6_fails ml_X6_174 ⟨Nat.le_of_ble_eq_true rfl, Nat.le_of_ble_eq_true rfl⟩ ⟨rfl, rfl⟩ ⟨Nat.zero_le _, Nat.zero_le _⟩ rfl (LM_ob hM) rfl (Nat.le_of_ble_eq_true rfl) _ rfl (fun z19 I20 h => ?_)
    obtain ⟨hr21, h⟩ := h
    obtain ⟨hA22, hB23⟩ := h
    refine x_if_eq (pc := 27) 32 dX6_load_27 (by decide) hr21 (fun hc => ?_) (fun hc => ?_)
    · have h := hA22 hc
      refine x_aload_n (pc := 32) 0 dX6_load_32 rfl ?_
      refine x_iconst (pc := 33) dX6_load_33 ?_
      refine x_putI (pc := 34) dX6_load_34 FC6 2 (by decide) rfl rfl fl_X6_54 (LM_ob hM) ?_
      refine x_nmI (fun I24 eI24 => ?_)
      have h := h I24 eI24
      refine x_aload_n (pc := 37) 0 dX6_load_37 rfl ?_
      refine x_iload_n (pc := 38) 1 dX6_load_38 rfl ?_
      refine x_putI (pc := 39) dX6_load_39 FC6 3 (by decide) rfl rfl fl_X6_57 (LM_ob hM) ?_
      refine x_nmI (fun I25 eI25 => ?_)
      have h := h I25 eI25
      refine x_aload_n (pc := 42) 0 dX6_load_42 rfl ?_
      refine x_iconst (pc := 43) dX6_load_43 ?_
      refine x_putI (pc := 44) dX6_load_44 FC6 4 (by decide) rfl rfl fl_X6_60 (LM_ob hM) ?_
      refine x_nmI (fun I26 eI26 => ?_)
      have h := h I26 eI26
      refine x_aload_n (pc := 47) 0 dX6_load_47 rfl ?_
      refine x_iconst (pc := 48) dX6_load_48 ?_
      refine x_putI (pc := 49) dX6_load_49 FC6 5 (by decide) rfl rfl fl_X6_67 (LM_ob hM) ?_
      refine x_nmI (fun I27 eI27 => ?_)
      have h := h I27 eI27
      refine x_aload_n (pc := 52) 0 dX6_load_52 rfl ?_
      refine x_iconst (pc := 53) dX6_load_53 ?_
      refine x_putI (pc := 54) dX6_load_54 FC6 6 (by decide) rfl rfl fl_X6_70 (LM_ob hM) ?_
      refine x_nmI (fun I28 eI28 => ?_)
      have h := h I28 eI28
      refine x_aload_n (pc := 57) 0 dX6_load_57 rfl ?_
      refine x_iconst (pc := 58) dX6_load_58 ?_
      refine x_putI (pc := 59) dX6_load_59 FC6 14 (by decide) rfl rfl fl_X6_110 (LM_ob hM) ?_
      refine x_nmI (fun I29 eI29 => ?_)
      have h := h I29 eI29
      refine x_aload_n (pc := 62) 0 dX6_load_62 rfl ?_
      refine x_iconst (pc := 63) dX6_load_63 ?_
      refine x_putI (pc := 64) dX6_load_64 FC6 15 (by decide) rfl rfl fl_X6_144 (LM_ob hM) ?_
      refine x_nmI (fun I30 eI30 => ?_)
      have h := h I30 eI30
      refine x_iconst (pc := 67) dX6_load_67 ?_
      refine x_istore_n (pc := 68) (al' := [(0, vR 1), (1, vI x1), (2, vI 0)]) dX6_load_68 rfl rfl (Nat.le_of_ble_eq_true rfl) ?_
      exact x_sub [0, 2] rfl h
    · have h := hB23 hc
      refine x_iconst (pc := 30) dX6_load_30 ?_
      exact x_iret (pc := 31) dX6_load_31 rfl (Nat.le_refl _) (Nat.le_refl _) ⟨_, rfl, rfl, h⟩
set_option maxRecDepth 100000 in
set_option maxHeartbeats 4000000 in
theorem t_X6_load_69 {Γ : GG} {P : MP} {I : MM} {R : Int → MM → Prop} {x2 : Int} (hM : LM Γ P)
    (h : (inR x2) ∧ ((1655 ≤ x2 → (Cl Γ m_X6_takeWord [vR 1, vR (500 + 7)] P I (ri P (fun (z4 : Int) (I5 : MM) => (inR z4) ∧ ((z4 ≠ 0 → (Cl Γ m_X6_number [vR 1, vI 1, vI 6] P I5 (ri P (fun (z9 : Int) (I10 : MM) => (∀ I11 : MM, I11 = up2 I10 4 0 z9 → (Cl Γ m_X6_number [vR 1, vI 0, vI 1] P I11 (ri P (fun (z12 : Int) (I13 : MM) => (∀ I14 : MM, I14 = up2 I13 4 1 z12 → (Cl Γ m_X6_expect [vR 1, vI 59] P I14 (rv P (fun (I15 : MM) => XM Γ m_X6_load 0 0 139 [(0, vR 1)] [] P I15 (ri P R))))))))))))) ∧ (z4 = 0 → (Cl Γ m_X6_report [vR 1, vI (-2), vI (I5 1 4)] P I5 (rv P (fun (I16 : MM) => (Cl Γ m_X6_number [vR 1, vI 1, vI 6] P I16 (ri P (fun (z17 : Int) (I18 : MM) => (∀ I19 : MM, I19 = up2 I18 4 0 z17 → (Cl Γ m_X6_number [vR 1, vI 0, vI 1] P I19 (ri P (fun (z20 : Int) (I21 : MM) => (∀ I22 : MM, I22 = up2 I21 4 1 z20 → (Cl Γ m_X6_expect [vR 1, vI 59] P I22 (rv P (fun (I23 : MM) => XM Γ m_X6_load 0 0 139 [(0, vR 1)] [] P I23 (ri P R))))))))))))))))))))) ∧ (¬ 1655 ≤ x2 → (0 ≤ x2) ∧ (x2 < 1655) ∧ (∀ I26 : MM, I26 = up2 I 4 (x2).toNat 0 → XM Γ m_X6_load 0 0 69 [(0, vR 1), (2, vI (x2 + 1))] [] P I26 (ri P R))))) :
    XM Γ m_X6_load 0 0 69 [(0, vR 1), (2, vI x2)] [] P I (ri P R) := by
  refine x_iload_n (pc := 69) 1 dX6_load_69 rfl ?_
  refine x_sipush (pc := 70) dX6_load_70 rfl ?_
  obtain ⟨hr1, h⟩ := h
  obtain ⟨hA2, hB3⟩ := h
  refine x_icmp_ge (pc := 73) 89 dX6_load_73 (by decide) hr1 ⟨by decide, by decide⟩ (fun hc => ?_) (fun hc => ?_)
  · have h := hA2 hc
    refine x_aload_n (pc := 89) 0 dX6_load_89 rfl ?_
    refine x_ldcS (pc := 90) "shop" 7 dX6_load_90 oc_X6_178 ?_
    refine x_Vi (μ := m_X6_load) (pc := 92) dX6_load_92 h k_X6_takeWord ml_X6_122 ⟨Nat.le_of_ble_eq_true rfl, Nat.le_of_ble_eq_true rfl⟩ ⟨rfl, rfl⟩ ⟨Nat.zero_le _, Nat.zero_le _⟩ rfl (LM_ob hM) rfl (Nat.le_of_ble_eq_true rfl) _ rfl (fun z4 I5 h => ?_)
    obtain ⟨hr6, h⟩ := h
    obtain ⟨hA7, hB8⟩ := h
    refine x_if_ne (pc := 95) 108 dX6_load_95 (by decide) hr6 (fun hc => ?_) (fun hc => ?_)
    · have h := hA7 hc
      refine x_aload_n (pc := 108) 0 dX6_load_108 rfl ?_
      refine x_getP (pc := 109) dX6_load_109 FC6 9 (by decide) rfl fl_X6_20 (LM_ob hM) (LM_p9 hM) ?_
      refine x_iconst (pc := 112) dX6_load_112 ?_
      refine x_aload_n (pc := 113) 0 dX6_load_113 rfl ?_
      refine x_iconst (pc := 114) dX6_load_114 ?_
      refine x_bipush (pc := 115) dX6_load_115 rfl ?_
      refine x_Vi (μ := m_X6_load) (pc := 117) dX6_load_117 h k_X6_number ml_X6_132 ⟨Nat.le_of_ble_eq_true rfl, Nat.le_of_ble_eq_true rfl⟩ ⟨rfl, rfl⟩ ⟨Nat.zero_le _, Nat.zero_le _⟩ rfl (LM_ob hM) rfl (Nat.le_of_ble_eq_true rfl) _ rfl (fun z9 I10 h => ?_)
      refine x_iast (pc := 120) dX6_load_120 (LM_a9 hM) (by decide) (by decide) (by decide) ?_
      refine x_nmI (fun I11 eI11 => ?_)
      have h := h I11 eI11
      refine x_aload_n (pc := 121) 0 dX6_load_121 rfl ?_
      refine x_getP (pc := 122) dX6_load_122 FC6 9 (by decide) rfl fl_X6_20 (LM_ob hM) (LM_p9 hM) ?_
      refine x_iconst (pc := 125) dX6_load_125 ?_
      refine x_aload_n (pc := 126) 0 dX6_load_126 rfl ?_
      refine x_iconst (pc := 127) dX6_load_127 ?_
      refine x_iconst (pc := 128) dX6_load_128 ?_
      refine x_Vi (μ := m_X6_load) (pc := 129) dX6_load_129 h k_X6_number ml_X6_132 ⟨Nat.le_of_ble_eq_true rfl, Nat.le_of_ble_eq_true rfl⟩ ⟨rfl, rfl⟩ ⟨Nat.zero_le _, Nat.zero_le _⟩ rfl (LM_ob hM) rfl (Nat.le_of_ble_eq_true rfl) _ rfl (fun z12 I13 h => ?_)
      refine x_iast (pc := 132) dX6_load_132 (LM_a9 hM) (by decide) (by decide) (by decide) ?_
      refine x_nmI (fun I14 eI14 => ?_)
      have h := h I14 eI14
      refine x_aload_n (pc := 133) 0 dX6_load_133 rfl ?_
      refine x_bipush (pc := 134) dX6_load_134 rfl ?_
      refine x_Vv (μ := m_X6_load) (pc := 136) dX6_load_136 h k_X6_expect ml_X6_116 ⟨Nat.le_of_ble_eq_true rfl, Nat.le_of_ble_eq_true rfl⟩ ⟨rfl, rfl⟩ ⟨Nat.zero_le _, Nat.zero_le _⟩ rfl (LM_ob hM) rfl (Nat.le_of_ble_eq_true rfl) _ rfl (fun I15 h => ?_)
      exact x_sub [0] rfl h
    · have h := hB8 hc
      refine x_aload_n (pc := 98) 0 dX6_load_98 rfl ?_
      refine x_bipush (pc := 99) dX6_load_99 rfl ?_
      refine x_aload_n (pc := 101) 0 dX6_load_101 rfl ?_
      refine x_getI (pc := 102) dX6_load_102 FC6 4 (by decide) rfl fl_X6_60 (LM_ob hM) ?_
      refine x_Vv (μ := m_X6_load) (pc := 105) dX6_load_105 h k_X6_report ml_X6_94 ⟨Nat.le_of_ble_eq_true rfl, Nat.le_of_ble_eq_true rfl⟩ ⟨rfl, rfl⟩ ⟨Nat.zero_le _, Nat.zero_le _⟩ rfl (LM_ob hM) rfl (Nat.le_of_ble_eq_true rfl) _ rfl (fun I16 h => ?_)
      refine x_aload_n (pc := 108) 0 dX6_load_108 rfl ?_
      refine x_getP (pc := 109) dX6_load_109 FC6 9 (by decide) rfl fl_X6_20 (LM_ob hM) (LM_p9 hM) ?_
      refine x_iconst (pc := 112) dX6_load_112 ?_
      refine x_aload_n (pc := 113) 0 dX6_load_113 rfl ?_
      refine x_iconst (pc := 114) dX6_load_114 ?_
      refine x_bipush (pc := 115) dX6_load_115 rfl ?_
      refine x_Vi (μ := m_X6_load) (pc := 117) dX6_load_117 h k_X6_number ml_X6_132 ⟨Nat.le_of_ble_eq_true rfl, Nat.le_of_ble_eq_true rfl⟩ ⟨rfl, rfl⟩ ⟨Nat.zero_le _, Nat.zero_le _⟩ rfl (LM_ob hM) rfl (Nat.le_of_ble_eq_true rfl) _ rfl (fun z17 I18 h => ?_)
      refine x_iast (pc := 120) dX6_load_120 (LM_a9 hM) (by decide) (by decide) (by decide) ?_
      refine x_nmI (fun I19 eI19 => ?_)
      have h := h I19 eI19
      refine x_aload_n (pc := 121) 0 dX6_load_121 rfl ?_
      refine x_getP (pc := 122) dX6_load_122 FC6 9 (by decide) rfl fl_X6_20 (LM_ob hM) (LM_p9 hM) ?_
      refine x_iconst (pc := 125) dX6_load_125 ?_
      refine x_aload_n (pc := 126) 0 dX6_load_126 rfl ?_
      refine x_iconst (pc := 127) dX6_load_127 ?_
      refine x_iconst (pc := 128) dX6_load_128 ?_
      refine x_Vi (μ := m_X6_load) (pc := 129) dX6_load_129 h k_X6_number ml_X6_132 ⟨Nat.le_of_ble_eq_true rfl, Nat.le_of_ble_eq_true rfl⟩ ⟨rfl, rfl⟩ ⟨Nat.zero_le _, Nat.zero_le _⟩ rfl (LM_ob hM) rfl (Nat.le_of_ble_eq_true rfl) _ rfl (fun z20 I21 h => ?_)
      refine x_iast (pc := 132) dX6_load_132 (LM_a9 hM) (by decide) (by decide) (by decide) ?_
      refine x_nmI (fun I22 eI22 => ?_)
      have h := h I22 eI22
      refine x_aload_n (pc := 133) 0 dX6_load_133 rfl ?_
      refine x_bipush (pc := 134) dX6_load_134 rfl ?_
      refine x_Vv (μ := m_X6_load) (pc := 136) dX6_load_136 h k_X6_expect ml_X6_116 ⟨Nat.le_of_ble_eq_true rfl, Nat.le_of_ble_eq_true rfl⟩ ⟨rfl, rfl⟩ ⟨Nat.zero_le _, Nat.zero_le _⟩ rfl (LM_ob hM) rfl (Nat.le_of_ble_eq_true rfl) _ rfl (fun I23 h => ?_)
      exact x_sub [0] rfl h
  · have h := hB3 hc
    refine x_aload_n (pc := 76) 0 dX6_load_76 rfl ?_
    refine x_getP (pc := 77) dX6_load_77 FC6 9 (by decide) rfl fl_X6_20 (LM_ob hM) (LM_p9 hM) ?_
    refine x_iload_n (pc := 80) 1 dX6_load_80 rfl ?_
    refine x_iconst (pc := 81) dX6_load_81 ?_
    obtain ⟨hv24, h⟩ := h
    obtain ⟨hv25, h⟩ := h
    refine x_iast (pc := 82) dX6_load_82 (LM_a9 hM) hv24 hv25 (by decide) ?_
    refine x_nmI (fun I26 eI26 => ?_)
    have h := h I26 eI26
    refine x_iinc (pc := 83) (al' := [(0, vR 1), (2, vI (x2 + 1))]) 1 dX6_load_83 rfl rfl rfl (Nat.le_of_ble_eq_true rfl) ?_
    refine x_goto (pc := 86) 69 dX6_load_86 (by decide) ?_
    exact x_sub [0, 1] rfl h
set_option maxRecDepth 100000 in
set_option maxHeartbeats 4000000 in
theorem t_X6_load_139 {Γ : GG} {P : MP} {I : MM} {R : Int → MM → Prop} (hM : LM Γ P)
    (h : (Cl Γ m_X6_isGood [vR 1] P I (ri P (fun (z1 : Int) (I2 : MM) => (inR z1) ∧ ((z1 = 0 → (inR (I2 4 2)) ∧ (((I2 4 2) ≠ 0 → (∀ I9 : MM, I9 = up2 I2 1 7 (I2 1 6) → (Cl Γ m_X6_isGood [vR 1] P I9 (ri P (fun (z10 : Int) (I11 : MM) => (inR z10) ∧ ((z10 ≠ 0 → (Cl Γ m_X6_remember [vR 1] P I11 (rv P (fun (I15 : MM) => (Cl Γ m_X6_copy [vR 4, vR 3] P I15 (rv P (fun (I16 : MM) => (Cl Γ m_X6_layFirst [vR 1] P I16 (rv P (fun (I17 : MM) => R (I17 3 2) I17)))))))))) ∧ (z10 = 0 → R (I11 1 5) I11))))))) ∧ ((I2 4 2) = 0 → (Cl Γ m_X6_report [vR 1, vI (-2), vI (I2 1 3)] P I2 (rv P (fun (I18 : MM) => (∀ I19 : MM, I19 = up2 I18 1 7 (I18 1 6) → (Cl Γ m_X6_isGood [vR 1] P I19 (ri P (fun (z20 : Int) (I21 : MM) => (inR z20) ∧ ((z20 ≠ 0 → (Cl Γ m_X6_remember [vR 1] P I21 (rv P (fun (I25 : MM) => (Cl Γ m_X6_copy [vR 4, vR 3] P I25 (rv P (fun (I26 : MM) => (Cl Γ m_X6_layFirst [vR 1] P I26 (rv P (fun (I27 : MM) => R (I27 3 2) I27)))))))))) ∧ (z20 = 0 → R (I21 1 5) I21)))))))))))) ∧ (¬ z1 = 0 → (Cl Γ m_X6_next [vR 1] P I2 (ri P (fun (z28 : Int) (I29 : MM) => (inR z28) ∧ ((z28 = (-1) → (inR (I29 4 2)) ∧ (((I29 4 2) ≠ 0 → (∀ I36 : MM, I36 = up2 I29 1 7 (I29 1 6) → (Cl Γ m_X6_isGood [vR 1] P I36 (ri P (fun (z37 : Int) (I38 : MM) => (inR z37) ∧ ((z37 ≠ 0 → (Cl Γ m_X6_remember [vR 1] P I38 (rv P (fun (I42 : MM) => (Cl Γ m_X6_copy [vR 4, vR 3] P I42 (rv P (fun (I43 : MM) => (Cl Γ m_X6_layFirst [vR 1] P I43 (rv P (fun (I44 : MM) => R (I44 3 2) I44)))))))))) ∧ (z37 = 0 → R (I38 1 5) I38))))))) ∧ ((I29 4 2) = 0 → (Cl Γ m_X6_report [vR 1, vI (-2), vI (I29 1 3)] P I29 (rv P (fun (I45 : MM) => (∀ I46 : MM, I46 = up2 I45 1 7 (I45 1 6) → (Cl Γ m_X6_isGood [vR 1] P I46 (ri P (fun (z47 : Int) (I48 : MM) => (inR z47) ∧ ((z47 ≠ 0 → (Cl Γ m_X6_remember [vR 1] P I48 (rv P (fun (I52 : MM) => (Cl Γ m_X6_copy [vR 4, vR 3] P I52 (rv P (fun (I53 : MM) => (Cl Γ m_X6_layFirst [vR 1] P I53 (rv P (fun (I54 : MM) => R (I54 3 2) I54)))))))))) ∧ (z47 = 0 → R (I48 1 5) I48)))))))))))) ∧ (¬ z28 = (-1) → (Cl Γ m_X6_statement [vR 1] P I29 (rv P (fun (I55 : MM) => XM Γ m_X6_load 0 0 139 [(0, vR 1)] [] P I55 (ri P R))))))))))))))) :
    XM Γ m_X6_load 0 0 139 [(0, vR 1)] [] P I (ri P R) := by
  refine x_aload_n (pc := 139) 0 dX6_load_139 rfl ?_
  refine x_Vi (μ := m_X6_load) (pc := 140) dX6_load_140 h k_X6_isGood ml_X6_77 ⟨Nat.le_of_ble_eq_true rfl, Nat.le_of_ble_eq_true rfl⟩ ⟨rfl, rfl⟩ ⟨Nat.zero_le _, Nat.zero_le _⟩ rfl (LM_ob hM) rfl (Nat.le_of_ble_eq_true rfl) _ rfl (fun z1 I2 h => ?_)
  obtain ⟨hr3, h⟩ := h
  obtain ⟨hA4, hB5⟩ := h
  refine x_if_eq (pc := 143) 161 dX6_load_143 (by decide) hr3 (fun hc => ?_) (fun hc => ?_)
  · have h := hA4 hc
    refine x_aload_n (pc := 161) 0 dX6_load_161 rfl ?_
    refine x_getP (pc := 162) dX6_load_162 FC6 9 (by decide) rfl fl_X6_20 (LM_ob hM) (LM_p9 hM) ?_
    refine x_iconst (pc := 165) dX6_load_165 ?_
    refine x_iald (pc := 166) dX6_load_166 (LM_a9 hM) (by decide) (by decide) (by decide) ?_
    obtain ⟨hr6, h⟩ := h
    obtain ⟨hA7, hB8⟩ := h
    refine x_if_ne (pc := 167) 180 dX6_load_167 (by decide) hr6 (fun hc => ?_) (fun hc => ?_)
    · have h := hA7 hc
      refine x_aload_n (pc := 180) 0 dX6_load_180 rfl ?_
      refine x_aload_n (pc := 181) 0 dX6_load_181 rfl ?_
      refine x_getI (pc := 182) dX6_load_182 FC6 6 (by decide) rfl fl_X6_70 (LM_ob hM) ?_
      refine x_putI (pc := 185) dX6_load_185 FC6 7 (by decide) rfl rfl fl_X6_13 (LM_ob hM) ?_
      refine x_nmI (fun I9 eI9 => ?_)
      have h := h I9 eI9
      refine x_aload_n (pc := 188) 0 dX6_load_188 rfl ?_
      refine x_Vi (μ := m_X6_load) (pc := 189) dX6_load_189 h k_X6_isGood ml_X6_77 ⟨Nat.le_of_ble_eq_true rfl, Nat.le_of_ble_eq_true rfl⟩ ⟨rfl, rfl⟩ ⟨Nat.zero_le _, Nat.zero_le _⟩ rfl (LM_ob hM) rfl (Nat.le_of_ble_eq_true rfl) _ rfl (fun z10 I11 h => ?_)
      obtain ⟨hr12, h⟩ := h
      obtain ⟨hA13, hB14⟩ := h
      refine x_if_ne (pc := 192) 200 dX6_load_192 (by decide) hr12 (fun hc => ?_) (fun hc => ?_)
      · have h := hA13 hc
        refine x_aload_n (pc := 200) 0 dX6_load_200 rfl ?_
        refine x_Vv (μ := m_X6_load) (pc := 201) dX6_load_201 h k_X6_remember ml_X6_183 ⟨Nat.le_of_ble_eq_true rfl, Nat.le_of_ble_eq_true rfl⟩ ⟨rfl, rfl⟩ ⟨Nat.zero_le _, Nat.zero_le _⟩ rfl (LM_ob hM) rfl (Nat.le_of_ble_eq_true rfl) _ rfl (fun I15 h => ?_)
        refine x_aload_n (pc := 204) 0 dX6_load_204 rfl ?_
        refine x_getP (pc := 205) dX6_load_205 FC6 9 (by decide) rfl fl_X6_20 (LM_ob hM) (LM_p9 hM) ?_
        refine x_aload_n (pc := 208) 0 dX6_load_208 rfl ?_
        refine x_getP (pc := 209) dX6_load_209 FC6 8 (by decide) rfl fl_X6_17 (LM_ob hM) (LM_p8 hM) ?_
        refine x_Sv (μ := m_X6_load) (pc := 212) dX6_load_212 h k_X6_copy ml_X6_186 ⟨Nat.le_of_ble_eq_true rfl, Nat.le_of_ble_eq_true rfl⟩ ⟨rfl, rfl⟩ ⟨Nat.zero_le _, Nat.zero_le _⟩ rfl (Nat.le_of_ble_eq_true rfl) _ rfl (fun I16 h => ?_)
        refine x_aload_n (pc := 215) 0 dX6_load_215 rfl ?_
        refine x_Vv (μ := m_X6_load) (pc := 216) dX6_load_216 h k_X6_layFirst ml_X6_190 ⟨Nat.le_of_ble_eq_true rfl, Nat.le_of_ble_eq_true rfl⟩ ⟨rfl, rfl⟩ ⟨Nat.zero_le _, Nat.zero_le _⟩ rfl (LM_ob hM) rfl (Nat.le_of_ble_eq_true rfl) _ rfl (fun I17 h => ?_)
        refine x_aload_n (pc := 219) 0 dX6_load_219 rfl ?_
        refine x_getP (pc := 220) dX6_load_220 FC6 8 (by decide) rfl fl_X6_17 (LM_ob hM) (LM_p8 hM) ?_
        refine x_iconst (pc := 223) dX6_load_223 ?_
        refine x_iald (pc := 224) dX6_load_224 (LM_a8 hM) (by decide) (by decide) (by decide) ?_
        exact x_iret (pc := 225) dX6_load_225 rfl (Nat.le_refl _) (Nat.le_refl _) ⟨_, rfl, rfl, h⟩
      · have h := hB14 hc
        refine x_aload_n (pc := 195) 0 dX6_load_195 rfl ?_
        refine x_getI (pc := 196) dX6_load_196 FC6 5 (by decide) rfl fl_X6_67 (LM_ob hM) ?_
        exact x_iret (pc := 199) dX6_load_199 rfl (Nat.le_refl _) (Nat.le_refl _) ⟨_, rfl, rfl, h⟩
    · have h := hB8 hc
      refine x_aload_n (pc := 170) 0 dX6_load_170 rfl ?_
      refine x_bipush (pc := 171) dX6_load_171 rfl ?_
      refine x_aload_n (pc := 173) 0 dX6_load_173 rfl ?_
      refine x_getI (pc := 174) dX6_load_174 FC6 3 (by decide) rfl fl_X6_57 (LM_ob hM) ?_
      refine x_Vv (μ := m_X6_load) (pc := 177) dX6_load_177 h k_X6_report ml_X6_94 ⟨Nat.le_of_ble_eq_true rfl, Nat.le_of_ble_eq_true rfl⟩ ⟨rfl, rfl⟩ ⟨Nat.zero_le _, Nat.zero_le _⟩ rfl (LM_ob hM) rfl (Nat.le_of_ble_eq_true rfl) _ rfl (fun I18 h => ?_)
      refine x_aload_n (pc := 180) 0 dX6_load_180 rfl ?_
      refine x_aload_n (pc := 181) 0 dX6_load_181 rfl ?_
      refine x_getI (pc := 182) dX6_load_182 FC6 6 (by decide) rfl fl_X6_70 (LM_ob hM) ?_
      refine x_putI (pc := 185) dX6_load_185 FC6 7 (by decide) rfl rfl fl_X6_13 (LM_ob hM) ?_
      refine x_nmI (fun I19 eI19 => ?_)
      have h := h I19 eI19
      refine x_aload_n (pc := 188) 0 dX6_load_188 rfl ?_
      refine x_Vi (μ := m_X6_load) (pc := 189) dX6_load_189 h k_X6_isGood ml_X6_77 ⟨Nat.le_of_ble_eq_true rfl, Nat.le_of_ble_eq_true rfl⟩ ⟨rfl, rfl⟩ ⟨Nat.zero_le _, Nat.zero_le _⟩ rfl (LM_ob hM) rfl (Nat.le_of_ble_eq_true rfl) _ rfl (fun z20 I21 h => ?_)
      obtain ⟨hr22, h⟩ := h
      obtain ⟨hA23, hB24⟩ := h
      refine x_if_ne (pc := 192) 200 dX6_load_192 (by decide) hr22 (fun hc => ?_) (fun hc => ?_)
      · have h := hA23 hc
        refine x_aload_n (pc := 200) 0 dX6_load_200 rfl ?_
        refine x_Vv (μ := m_X6_load) (pc := 201) dX6_load_201 h k_X6_remember ml_X6_183 ⟨Nat.le_of_ble_eq_true rfl, Nat.le_of_ble_eq_true rfl⟩ ⟨rfl, rfl⟩ ⟨Nat.zero_le _, Nat.zero_le _⟩ rfl (LM_ob hM) rfl (Nat.le_of_ble_eq_true rfl) _ rfl (fun I25 h => ?_)
        refine x_aload_n (pc := 204) 0 dX6_load_204 rfl ?_
        refine x_getP (pc := 205) dX6_load_205 FC6 9 (by decide) rfl fl_X6_20 (LM_ob hM) (LM_p9 hM) ?_
        refine x_aload_n (pc := 208) 0 dX6_load_208 rfl ?_
        refine x_getP (pc := 209) dX6_load_209 FC6 8 (by decide) rfl fl_X6_17 (LM_ob hM) (LM_p8 hM) ?_
        refine x_Sv (μ := m_X6_load) (pc := 212) dX6_load_212 h k_X6_copy ml_X6_186 ⟨Nat.le_of_ble_eq_true rfl, Nat.le_of_ble_eq_true rfl⟩ ⟨rfl, rfl⟩ ⟨Nat.zero_le _, Nat.zero_le _⟩ rfl (Nat.le_of_ble_eq_true rfl) _ rfl (fun I26 h => ?_)
        refine x_aload_n (pc := 215) 0 dX6_load_215 rfl ?_
        refine x_Vv (μ := m_X6_load) (pc := 216) dX6_load_216 h k_X6_layFirst ml_X6_190 ⟨Nat.le_of_ble_eq_true rfl, Nat.le_of_ble_eq_true rfl⟩ ⟨rfl, rfl⟩ ⟨Nat.zero_le _, Nat.zero_le _⟩ rfl (LM_ob hM) rfl (Nat.le_of_ble_eq_true rfl) _ rfl (fun I27 h => ?_)
        refine x_aload_n (pc := 219) 0 dX6_load_219 rfl ?_
        refine x_getP (pc := 220) dX6_load_220 FC6 8 (by decide) rfl fl_X6_17 (LM_ob hM) (LM_p8 hM) ?_
        refine x_iconst (pc := 223) dX6_load_223 ?_
        refine x_iald (pc := 224) dX6_load_224 (LM_a8 hM) (by decide) (by decide) (by decide) ?_
        exact x_iret (pc := 225) dX6_load_225 rfl (Nat.le_refl _) (Nat.le_refl _) ⟨_, rfl, rfl, h⟩
      · have h := hB24 hc
        refine x_aload_n (pc := 195) 0 dX6_load_195 rfl ?_
        refine x_getI (pc := 196) dX6_load_196 FC6 5 (by decide) rfl fl_X6_67 (LM_ob hM) ?_
        exact x_iret (pc := 199) dX6_load_199 rfl (Nat.le_refl _) (Nat.le_refl _) ⟨_, rfl, rfl, h⟩
  · have h := hB5 hc
    refine x_aload_n (pc := 146) 0 dX6_load_146 rfl ?_
    refine x_Vi (μ := m_X6_load) (pc := 147) dX6_load_147 h k_X6_next ml_X6_81 ⟨Nat.le_of_ble_eq_true rfl, Nat.le_of_ble_eq_true rfl⟩ ⟨rfl, rfl⟩ ⟨Nat.zero_le _, Nat.zero_le _⟩ rfl (LM_ob hM) rfl (Nat.le_of_ble_eq_true rfl) _ rfl (fun z28 I29 h => ?_)
    refine x_iconst (pc := 150) dX6_load_150 ?_
    obtain ⟨hr30, h⟩ := h
    obtain ⟨hA31, hB32⟩ := h
    refine x_icmp_eq (pc := 151) 161 dX6_load_151 (by decide) hr30 ⟨by decide, by decide⟩ (fun hc => ?_) (fun hc => ?_)
    · have h := hA31 hc
      refine x_aload_n (pc := 161) 0 dX6_load_161 rfl ?_
      refine x_getP (pc := 162) dX6_load_162 FC6 9 (by decide) rfl fl_X6_20 (LM_ob hM) (LM_p9 hM) ?_
      refine x_iconst (pc := 165) dX6_load_165 ?_
      refine x_iald (pc := 166) dX6_load_166 (LM_a9 hM) (by decide) (by decide) (by decide) ?_
      obtain ⟨hr33, h⟩ := h
      obtain ⟨hA34, hB35⟩ := h
      refine x_if_ne (pc := 167) 180 dX6_load_167 (by decide) hr33 (fun hc => ?_) (fun hc => ?_)
      · have h := hA34 hc
        refine x_aload_n (pc := 180) 0 dX6_load_180 rfl ?_
        refine x_aload_n (pc := 181) 0 dX6_load_181 rfl ?_
        refine x_getI (pc := 182) dX6_load_182 FC6 6 (by decide) rfl fl_X6_70 (LM_ob hM) ?_
        refine x_putI (pc := 185) dX6_load_185 FC6 7 (by decide) rfl rfl fl_X6_13 (LM_ob hM) ?_
        refine x_nmI (fun I36 eI36 => ?_)
        have h := h I36 eI36
        refine x_aload_n (pc := 188) 0 dX6_load_188 rfl ?_
        refine x_Vi (μ := m_X6_load) (pc := 189) dX6_load_189 h k_X6_isGood ml_X6_77 ⟨Nat.le_of_ble_eq_true rfl, Nat.le_of_ble_eq_true rfl⟩ ⟨rfl, rfl⟩ ⟨Nat.zero_le _, Nat.zero_le _⟩ rfl (LM_ob hM) rfl (Nat.le_of_ble_eq_true rfl) _ rfl (fun z37 I38 h => ?_)
        obtain ⟨hr39, h⟩ := h
        obtain ⟨hA40, hB41⟩ := h
        refine x_if_ne (pc := 192) 200 dX6_load_192 (by decide) hr39 (fun hc => ?_) (fun hc => ?_)
        · have h := hA40 hc
          refine x_aload_n (pc := 200) 0 dX6_load_200 rfl ?_
          refine x_Vv (μ := m_X6_load) (pc := 201) dX6_load_201 h k_X6_remember ml_X6_183 ⟨Nat.le_of_ble_eq_true rfl, Nat.le_of_ble_eq_true rfl⟩ ⟨rfl, rfl⟩ ⟨Nat.zero_le _, Nat.zero_le _⟩ rfl (LM_ob hM) rfl (Nat.le_of_ble_eq_true rfl) _ rfl (fun I42 h => ?_)
          refine x_aload_n (pc := 204) 0 dX6_load_204 rfl ?_
          refine x_getP (pc := 205) dX6_load_205 FC6 9 (by decide) rfl fl_X6_20 (LM_ob hM) (LM_p9 hM) ?_
          refine x_aload_n (pc := 208) 0 dX6_load_208 rfl ?_
          refine x_getP (pc := 209) dX6_load_209 FC6 8 (by decide) rfl fl_X6_17 (LM_ob hM) (LM_p8 hM) ?_
          refine x_Sv (μ := m_X6_load) (pc := 212) dX6_load_212 h k_X6_copy ml_X6_186 ⟨Nat.le_of_ble_eq_true rfl, Nat.le_of_ble_eq_true rfl⟩ ⟨rfl, rfl⟩ ⟨Nat.zero_le _, Nat.zero_le _⟩ rfl (Nat.le_of_ble_eq_true rfl) _ rfl (fun I43 h => ?_)
          refine x_aload_n (pc := 215) 0 dX6_load_215 rfl ?_
          refine x_Vv (μ := m_X6_load) (pc := 216) dX6_load_216 h k_X6_layFirst ml_X6_190 ⟨Nat.le_of_ble_eq_true rfl, Nat.le_of_ble_eq_true rfl⟩ ⟨rfl, rfl⟩ ⟨Nat.zero_le _, Nat.zero_le _⟩ rfl (LM_ob hM) rfl (Nat.le_of_ble_eq_true rfl) _ rfl (fun I44 h => ?_)
          refine x_aload_n (pc := 219) 0 dX6_load_219 rfl ?_
          refine x_getP (pc := 220) dX6_load_220 FC6 8 (by decide) rfl fl_X6_17 (LM_ob hM) (LM_p8 hM) ?_
          refine x_iconst (pc := 223) dX6_load_223 ?_
          refine x_iald (pc := 224) dX6_load_224 (LM_a8 hM) (by decide) (by decide) (by decide) ?_
          exact x_iret (pc := 225) dX6_load_225 rfl (Nat.le_refl _) (Nat.le_refl _) ⟨_, rfl, rfl, h⟩
        · have h := hB41 hc
          refine x_aload_n (pc := 195) 0 dX6_load_195 rfl ?_
          refine x_getI (pc := 196) dX6_load_196 FC6 5 (by decide) rfl fl_X6_67 (LM_ob hM) ?_
          exact x_iret (pc := 199) dX6_load_199 rfl (Nat.le_refl _) (Nat.le_refl _) ⟨_, rfl, rfl, h⟩
      · have h := hB35 hc
        refine x_aload_n (pc := 170) 0 dX6_load_170 rfl ?_
        refine x_bipush (pc := 171) dX6_load_171 rfl ?_
        refine x_aload_n (pc := 173) 0 dX6_load_173 rfl ?_
        refine x_getI (pc := 174) dX6_load_174 FC6 3 (by decide) rfl fl_X6_57 (LM_ob hM) ?_
        refine x_Vv (μ := m_X6_load) (pc := 177) dX6_load_177 h k_X6_report ml_X6_94 ⟨Nat.le_of_ble_eq_true rfl, Nat.le_of_ble_eq_true rfl⟩ ⟨rfl, rfl⟩ ⟨Nat.zero_le _, Nat.zero_le _⟩ rfl (LM_ob hM) rfl (Nat.le_of_ble_eq_true rfl) _ rfl (fun I45 h => ?_)
        refine x_aload_n (pc := 180) 0 dX6_load_180 rfl ?_
        refine x_aload_n (pc := 181) 0 dX6_load_181 rfl ?_
        refine x_getI (pc := 182) dX6_load_182 FC6 6 (by decide) rfl fl_X6_70 (LM_ob hM) ?_
        refine x_putI (pc := 185) dX6_load_185 FC6 7 (by decide) rfl rfl fl_X6_13 (LM_ob hM) ?_
        refine x_nmI (fun I46 eI46 => ?_)
        have h := h I46 eI46
        refine x_aload_n (pc := 188) 0 dX6_load_188 rfl ?_
        refine x_Vi (μ := m_X6_load) (pc := 189) dX6_load_189 h k_X6_isGood ml_X6_77 ⟨Nat.le_of_ble_eq_true rfl, Nat.le_of_ble_eq_true rfl⟩ ⟨rfl, rfl⟩ ⟨Nat.zero_le _, Nat.zero_le _⟩ rfl (LM_ob hM) rfl (Nat.le_of_ble_eq_true rfl) _ rfl (fun z47 I48 h => ?_)
        obtain ⟨hr49, h⟩ := h
        obtain ⟨hA50, hB51⟩ := h
        refine x_if_ne (pc := 192) 200 dX6_load_192 (by decide) hr49 (fun hc => ?_) (fun hc => ?_)
        · have h := hA50 hc
          refine x_aload_n (pc := 200) 0 dX6_load_200 rfl ?_
          refine x_Vv (μ := m_X6_load) (pc := 201) dX6_load_201 h k_X6_remember ml_X6_183 ⟨Nat.le_of_ble_eq_true rfl, Nat.le_of_ble_eq_true rfl⟩ ⟨rfl, rfl⟩ ⟨Nat.zero_le _, Nat.zero_le _⟩ rfl (LM_ob hM) rfl (Nat.le_of_ble_eq_true rfl) _ rfl (fun I52 h => ?_)
          refine x_aload_n (pc := 204) 0 dX6_load_204 rfl ?_
          refine x_getP (pc := 205) dX6_load_205 FC6 9 (by decide) rfl fl_X6_20 (LM_ob hM) (LM_p9 hM) ?_
          refine x_aload_n (pc := 208) 0 dX6_load_208 rfl ?_
          refine x_getP (pc := 209) dX6_load_209 FC6 8 (by decide) rfl fl_X6_17 (LM_ob hM) (LM_p8 hM) ?_
          refine x_Sv (μ := m_X6_load) (pc := 212) dX6_load_212 h k_X6_copy ml_X6_186 ⟨Nat.le_of_ble_eq_true rfl, Nat.le_of_ble_eq_true rfl⟩ ⟨rfl, rfl⟩ ⟨Nat.zero_le _, Nat.zero_le _⟩ rfl (Nat.le_of_ble_eq_true rfl) _ rfl (fun I53 h => ?_)
          refine x_aload_n (pc := 215) 0 dX6_load_215 rfl ?_
          refine x_Vv (μ := m_X6_load) (pc := 216) dX6_load_216 h k_X6_layFirst ml_X6_190 ⟨Nat.le_of_ble_eq_true rfl, Nat.le_of_ble_eq_true rfl⟩ ⟨rfl, rfl⟩ ⟨Nat.zero_le _, Nat.zero_le _⟩ rfl (LM_ob hM) rfl (Nat.le_of_ble_eq_true rfl) _ rfl (fun I54 h => ?_)
          refine x_aload_n (pc := 219) 0 dX6_load_219 rfl ?_
          refine x_getP (pc := 220) dX6_load_220 FC6 8 (by decide) rfl fl_X6_17 (LM_ob hM) (LM_p8 hM) ?_
          refine x_iconst (pc := 223) dX6_load_223 ?_
          refine x_iald (pc := 224) dX6_load_224 (LM_a8 hM) (by decide) (by decide) (by decide) ?_
          exact x_iret (pc := 225) dX6_load_225 rfl (Nat.le_refl _) (Nat.le_refl _) ⟨_, rfl, rfl, h⟩
        · have h := hB51 hc
          refine x_aload_n (pc := 195) 0 dX6_load_195 rfl ?_
          refine x_getI (pc := 196) dX6_load_196 FC6 5 (by decide) rfl fl_X6_67 (LM_ob hM) ?_
          exact x_iret (pc := 199) dX6_load_199 rfl (Nat.le_refl _) (Nat.le_refl _) ⟨_, rfl, rfl, h⟩
    · have h := hB32 hc
      refine x_aload_n (pc := 154) 0 dX6_load_154 rfl ?_
      refine x_Vv (μ := m_X6_load) (pc := 155) dX6_load_155 h k_X6_statement ml_X6_180 ⟨Nat.le_of_ble_eq_true rfl, Nat.le_of_ble_eq_true rfl⟩ ⟨rfl, rfl⟩ ⟨Nat.zero_le _, Nat.zero_le _⟩ rfl (LM_ob hM) rfl (Nat.le_of_ble_eq_true rfl) _ rfl (fun I55 h => ?_)
      refine x_goto (pc := 158) 139 dX6_load_158 (by decide) ?_
      exact x_sub [0] rfl h
