set_option maxRecDepth 100000 in
set_option maxHeartbeats 4000000 in
theorem t_X6_findBest_0 {Γ : GG} {P : MP} {I : MM} {R : Int → MM → Prop} (hM : LM Γ P)
    (h : XM Γ m_X6_findBest 0 0 4 [(0, vR 1), (1, vI (-1)), (2, vI 0)] [] P I (ri P R)) :
    XM Γ m_X6_findBest 0 0 0 [(0, vR 1)] [] P I (ri P R) := by
  refine x_iconst (pc := 0) dX6_findBest_0 ?_
  refine x_istore_n (pc := 1) (al' := [(0, vR 1), (1, vI (-1))]) dX6_findBest_1 rfl rfl (Nat.le_of_ble_eq_true rfl) ?_
  refine x_iconst (pc := 2) dX6_findBest_2 ?_
  refine x_istore_n (pc := 3) (al' := [(0, vR 1), (1, vI (-1)), (2, vI 0)]) dX6_findBest_3 rfl rfl (Nat.le_of_ble_eq_true rfl) ?_
  exact x_sub [0, 1, 2] rfl h
set_option maxRecDepth 100000 in
set_option maxHeartbeats 4000000 in
theorem t_X6_findBest_4 {Γ : GG} {P : MP} {I : MM} {R : Int → MM → Prop} {x1 x2 : Int} (hM : LM Γ P)
    (h : (inR x2) ∧ (inR (I 3 0)) ∧ (((I 3 0) ≤ x2 → R x1 I) ∧ (¬ (I 3 0) ≤ x2 → XM Γ m_X6_findBest 0 0 16 [(0, vR 1), (1, vI x1), (2, vI x2), (3, vI 0)] [] P I (ri P R)))) :
    XM Γ m_X6_findBest 0 0 4 [(0, vR 1), (1, vI x1), (2, vI x2)] [] P I (ri P R) := by
  refine x_iload_n (pc := 4) 2 dX6_findBest_4 rfl ?_
  refine x_aload_n (pc := 5) 0 dX6_findBest_5 rfl ?_
  refine x_getP (pc := 6) dX6_findBest_6 FC6 8 (by decide) rfl fl_X6_17 (LM_ob hM) (LM_p8 hM) ?_
  refine x_iconst (pc := 9) dX6_findBest_9 ?_
  refine x_iald (pc := 10) dX6_findBest_10 (LM_a8 hM) (by decide) (by decide) (by decide) ?_
  obtain ⟨hr1, h⟩ := h
  obtain ⟨hr2, h⟩ := h
  obtain ⟨hA3, hB4⟩ := h
  refine x_icmp_ge (pc := 11) 118 dX6_findBest_11 (by decide) hr1 hr2 (fun hc => ?_) (fun hc => ?_)
  · have h := hA3 hc
    refine x_iload_n (pc := 118) 1 dX6_findBest_118 rfl ?_
    exact x_iret (pc := 119) dX6_findBest_119 rfl (Nat.le_refl _) (Nat.le_refl _) ⟨_, rfl, rfl, h⟩
  · have h := hB4 hc
    refine x_iconst (pc := 14) dX6_findBest_14 ?_
    refine x_istore_n (pc := 15) (al' := [(0, vR 1), (1, vI x1), (2, vI x2), (3, vI 0)]) dX6_findBest_15 rfl rfl (Nat.le_of_ble_eq_true rfl) ?_
    exact x_sub [0, 1, 2, 3] rfl h
set_option maxRecDepth 100000 in
set_option maxHeartbeats 4000000 in
theorem t_X6_findBest_16 {Γ : GG} {P : MP} {I : MM} {R : Int → MM → Prop} {x1 x2 x3 : Int} (hM : LM Γ P)
    (h : (Cl Γ m_X6_machine [vI x2] P I (ri P (fun (z1 : Int) (I2 : MM) => (0 ≤ (z1 + 2)) ∧ ((z1 + 2) < 1655) ∧ (inR (x3 + 1)) ∧ (inR (I2 3 ((z1 + 2)).toNat)) ∧ (((I2 3 ((z1 + 2)).toNat) ≤ (x3 + 1) → XM Γ m_X6_findBest 0 0 4 [(0, vR 1), (1, vI x1), (2, vI (x2 + 1))] [] P I2 (ri P R)) ∧ (¬ (I2 3 ((z1 + 2)).toNat) ≤ (x3 + 1) → (Cl Γ m_X6_exchange [vR 1, vI x2, vI x3] P I2 (rv P (fun (I9 : MM) => (Cl Γ m_X6_isDeadlocked [vR 1] P I9 (ri P (fun (z10 : Int) (I11 : MM) => (inR z10) ∧ ((z10 ≠ 0 → (Cl Γ m_X6_exchange [vR 1, vI x2, vI x3] P I11 (rv P (fun (I15 : MM) => XM Γ m_X6_findBest 0 0 16 [(0, vR 1), (1, vI x1), (2, vI x2), (3, vI (x3 + 1))] [] P I15 (ri P R))))) ∧ (z10 = 0 → (Cl Γ m_X6_makespanOf [vR 1] P I11 (ri P (fun (z16 : Int) (I17 : MM) => (Cl Γ m_X6_costOfPlan [vR 1] P I17 (ri P (fun (z18 : Int) (I19 : MM) => (inR x1) ∧ ((x1 = (-1) → (∀ u23 : Int, u23 = ((100 * x2) + x3) → (∀ I24 : MM, I24 = up2 I19 1 21 z16 → (∀ I25 : MM, I25 = up2 I24 1 22 z18 → (Cl Γ m_X6_exchange [vR 1, vI x2, vI x3] P I25 (rv P (fun (I26 : MM) => XM Γ m_X6_findBest 0 0 16 [(0, vR 1), (1, vI u23), (2, vI x2), (3, vI (x3 + 1))] [] P I26 (ri P R)))))))) ∧ (¬ x1 = (-1) → (Cl Γ m_X6_isBetter [vI z16, vI z18, vI (I19 1 21), vI (I19 1 22)] P I19 (ri P (fun (z27 : Int) (I28 : MM) => (inR z27) ∧ ((z27 = 0 → (Cl Γ m_X6_exchange [vR 1, vI x2, vI x3] P I28 (rv P (fun (I32 : MM) => XM Γ m_X6_findBest 0 0 16 [(0, vR 1), (1, vI x1), (2, vI x2), (3, vI (x3 + 1))] [] P I32 (ri P R))))) ∧ (¬ z27 = 0 → (∀ u33 : Int, u33 = ((100 * x2) + x3) → (∀ I34 : MM, I34 = up2 I28 1 21 z16 → (∀ I35 : MM, I35 = up2 I34 1 22 z18 → (Cl Γ m_X6_exchange [vR 1, vI x2, vI x3] P I35 (rv P (fun (I36 : MM) => XM Γ m_X6_findBest 0 0 16 [(0, vR 1), (1, vI u33), (2, vI x2), (3, vI (x3 + 1))] [] P I36 (ri P R)))))))))))))))))))))))))))))))))) :
    XM Γ m_X6_findBest 0 0 16 [(0, vR 1), (1, vI x1), (2, vI x2), (3, vI x3)] [] P I (ri P R) := by
  refine x_iload_n (pc := 16) 3 dX6_findBest_16 rfl ?_
  refine x_iconst (pc := 17) dX6_findBest_17 ?_
  refine x_iadd (pc := 18) dX6_findBest_18 ?_
  refine x_aload_n (pc := 19) 0 dX6_findBest_19 rfl ?_
  refine x_getP (pc := 20) dX6_findBest_20 FC6 8 (by decide) rfl fl_X6_17 (LM_ob hM) (LM_p8 hM) ?_
  refine x_iload_n (pc := 23) 2 dX6_findBest_23 rfl ?_
  refine x_Si (μ := m_X6_findBest) (pc := 24) dX6_findBest_24 h k_X6_machine ml_X6_158 ⟨Nat.le_of_ble_eq_true rfl, Nat.le_of_ble_eq_true rfl⟩ ⟨rfl, rfl⟩ ⟨Nat.zero_le _, Nat.zero_le _⟩ rfl (Nat.le_of_ble_eq_true rfl) _ rfl (fun z1 I2 h => ?_)
  refine x_iconst (pc := 27) dX6_findBest_27 ?_
  refine x_iadd (pc := 28) dX6_findBest_28 ?_
  obtain ⟨hv3, h⟩ := h
  obtain ⟨hv4, h⟩ := h
  refine x_iald (pc := 29) dX6_findBest_29 (LM_a8 hM) hv3 hv4 (by decide) ?_
  obtain ⟨hr5, h⟩ := h
  obtain ⟨hr6, h⟩ := h
  obtain ⟨hA7, hB8⟩ := h
  refine x_icmp_ge (pc := 30) 112 dX6_findBest_30 (by decide) hr5 hr6 (fun hc => ?_) (fun hc => ?_)
  · have h := hA7 hc
    refine x_iinc (pc := 112) (al' := [(0, vR 1), (1, vI x1), (2, vI (x2 + 1)), (3, vI x3)]) 2 dX6_findBest_112 rfl rfl rfl (Nat.le_of_ble_eq_true rfl) ?_
    refine x_goto (pc := 115) 4 dX6_findBest_115 (by decide) ?_
    exact x_sub [0, 1, 2] rfl h
  · have h := hB8 hc
    refine x_aload_n (pc := 33) 0 dX6_findBest_33 rfl ?_
    refine x_iload_n (pc := 34) 2 dX6_findBest_34 rfl ?_
    refine x_iload_n (pc := 35) 3 dX6_findBest_35 rfl ?_
    refine x_Vv (μ := m_X6_findBest) (pc := 36) dX6_findBest_36 h k_X6_exchange ml_X6_241 ⟨Nat.le_of_ble_eq_true rfl, Nat.le_of_ble_eq_true rfl⟩ ⟨rfl, rfl⟩ ⟨Nat.zero_le _, Nat.zero_le _⟩ rfl (LM_ob hM) rfl (Nat.le_of_ble_eq_true rfl) _ rfl (fun I9 h => ?_)
    refine x_aload_n (pc := 39) 0 dX6_findBest_39 rfl ?_
    refine x_Vi (μ := m_X6_findBest) (pc := 40) dX6_findBest_40 h k_X6_isDeadlocked ml_X6_244 ⟨Nat.le_of_ble_eq_true rfl, Nat.le_of_ble_eq_true rfl⟩ ⟨rfl, rfl⟩ ⟨Nat.zero_le _, Nat.zero_le _⟩ rfl (LM_ob hM) rfl (Nat.le_of_ble_eq_true rfl) _ rfl (fun z10 I11 h => ?_)
    obtain ⟨hr12, h⟩ := h
    obtain ⟨hA13, hB14⟩ := h
    refine x_if_ne (pc := 43) 100 dX6_findBest_43 (by decide) hr12 (fun hc => ?_) (fun hc => ?_)
    · have h := hA13 hc
      refine x_aload_n (pc := 100) 0 dX6_findBest_100 rfl ?_
      refine x_iload_n (pc := 101) 2 dX6_findBest_101 rfl ?_
      refine x_iload_n (pc := 102) 3 dX6_findBest_102 rfl ?_
      refine x_Vv (μ := m_X6_findBest) (pc := 103) dX6_findBest_103 h k_X6_exchange ml_X6_241 ⟨Nat.le_of_ble_eq_true rfl, Nat.le_of_ble_eq_true rfl⟩ ⟨rfl, rfl⟩ ⟨Nat.zero_le _, Nat.zero_le _⟩ rfl (LM_ob hM) rfl (Nat.le_of_ble_eq_true rfl) _ rfl (fun I15 h => ?_)
      refine x_iinc (pc := 106) (al' := [(0, vR 1), (1, vI x1), (2, vI x2), (3, vI (x3 + 1))]) 3 dX6_findBest_106 rfl rfl rfl (Nat.le_of_ble_eq_true rfl) ?_
      refine x_goto (pc := 109) 16 dX6_findBest_109 (by decide) ?_
      exact x_sub [0, 1, 2, 3] rfl h
    · have h := hB14 hc
      refine x_aload_n (pc := 46) 0 dX6_findBest_46 rfl ?_
      refine x_Vi (μ := m_X6_findBest) (pc := 47) dX6_findBest_47 h k_X6_makespanOf ml_X6_247 ⟨Nat.le_of_ble_eq_true rfl, Nat.le_of_ble_eq_true rfl⟩ ⟨rfl, rfl⟩ ⟨Nat.zero_le _, Nat.zero_le _⟩ rfl (LM_ob hM) rfl (Nat.le_of_ble_eq_true rfl) _ rfl (fun z16 I17 h => ?_)
      refine x_istore (pc := 50) (al' := [(0, vR 1), (1, vI x1), (2, vI x2), (3, vI x3), (4, vI z16)]) dX6_findBest_50 rfl rfl (Nat.le_of_ble_eq_true rfl) ?_
      refine x_aload_n (pc := 52) 0 dX6_findBest_52 rfl ?_
      refine x_Vi (μ := m_X6_findBest) (pc := 53) dX6_findBest_53 h k_X6_costOfPlan ml_X6_250 ⟨Nat.le_of_ble_eq_true rfl, Nat.le_of_ble_eq_true rfl⟩ ⟨rfl, rfl⟩ ⟨Nat.zero_le _, Nat.zero_le _⟩ rfl (LM_ob hM) rfl (Nat.le_of_ble_eq_true rfl) _ rfl (fun z18 I19 h => ?_)
      refine x_istore (pc := 56) (al' := [(0, vR 1), (1, vI x1), (2, vI x2), (3, vI x3), (4, vI z16), (5, vI z18)]) dX6_findBest_56 rfl rfl (Nat.le_of_ble_eq_true rfl) ?_
      refine x_iload_n (pc := 58) 1 dX6_findBest_58 rfl ?_
      refine x_iconst (pc := 59) dX6_findBest_59 ?_
      obtain ⟨hr20, h⟩ := h
      obtain ⟨hA21, hB22⟩ := h
      refine x_icmp_eq (pc := 60) 81 dX6_findBest_60 (by decide) hr20 ⟨by decide, by decide⟩ (fun hc => ?_) (fun hc => ?_)
      · have h := hA21 hc
        refine x_bipush (pc := 81) dX6_findBest_81 rfl ?_
        refine x_iload_n (pc := 83) 2 dX6_findBest_83 rfl ?_
        refine x_imul (pc := 84) dX6_findBest_84 ?_
        refine x_iload_n (pc := 85) 3 dX6_findBest_85 rfl ?_
        refine x_iadd (pc := 86) dX6_findBest_86 ?_
        refine x_nmT (fun u23 eu23 => ?_)
        have h := h u23 eu23
        refine x_istore_n (pc := 87) (al' := [(0, vR 1), (1, vI u23), (2, vI x2), (3, vI x3), (4, vI z16), (5, vI z18)]) dX6_findBest_87 rfl rfl (Nat.le_of_ble_eq_true rfl) ?_
        refine x_aload_n (pc := 88) 0 dX6_findBest_88 rfl ?_
        refine x_iload (pc := 89) 4 dX6_findBest_89 rfl ?_
        refine x_putI (pc := 91) dX6_findBest_91 FC6 21 (by decide) rfl rfl fl_X6_253 (LM_ob hM) ?_
        refine x_nmI (fun I24 eI24 => ?_)
        have h := h I24 eI24
        refine x_aload_n (pc := 94) 0 dX6_findBest_94 rfl ?_
        refine x_iload (pc := 95) 5 dX6_findBest_95 rfl ?_
        refine x_putI (pc := 97) dX6_findBest_97 FC6 22 (by decide) rfl rfl fl_X6_256 (LM_ob hM) ?_
        refine x_nmI (fun I25 eI25 => ?_)
        have h := h I25 eI25
        refine x_aload_n (pc := 100) 0 dX6_findBest_100 rfl ?_
        refine x_iload_n (pc := 101) 2 dX6_findBest_101 rfl ?_
        refine x_iload_n (pc := 102) 3 dX6_findBest_102 rfl ?_
        refine x_Vv (μ := m_X6_findBest) (pc := 103) dX6_findBest_103 h k_X6_exchange ml_X6_241 ⟨Nat.le_of_ble_eq_true rfl, Nat.le_of_ble_eq_true rfl⟩ ⟨rfl, rfl⟩ ⟨Nat.zero_le _, Nat.zero_le _⟩ rfl (LM_ob hM) rfl (Nat.le_of_ble_eq_true rfl) _ rfl (fun I26 h => ?_)
        refine x_iinc (pc := 106) (al' := [(0, vR 1), (1, vI u23), (2, vI x2), (3, vI (x3 + 1)), (4, vI z16), (5, vI z18)]) 3 dX6_findBest_106 rfl rfl rfl (Nat.le_of_ble_eq_true rfl) ?_
        refine x_goto (pc := 109) 16 dX6_findBest_109 (by decide) ?_
        exact x_sub [0, 1, 2, 3] rfl h
      · have h := hB22 hc
        refine x_iload (pc := 63) 4 dX6_findBest_63 rfl ?_
        refine x_iload (pc := 65) 5 dX6_findBest_65 rfl ?_
        refine x_aload_n (pc := 67) 0 dX6_findBest_67 rfl ?_
        refine x_getI (pc := 68) dX6_findBest_68 FC6 21 (by decide) rfl fl_X6_253 (LM_ob hM) ?_
        refine x_aload_n (pc := 71) 0 dX6_findBest_71 rfl ?_
        refine x_getI (pc := 72) dX6_findBest_72 FC6 22 (by decide) rfl fl_X6_256 (LM_ob hM) ?_
        refine x_Si (μ := m_X6_findBest) (pc := 75) dX6_findBest_75 h k_X6_isBetter ml_X6_259 ⟨Nat.le_of_ble_eq_true rfl, Nat.le_of_ble_eq_true rfl⟩ ⟨rfl, rfl⟩ ⟨Nat.zero_le _, Nat.zero_le _⟩ rfl (Nat.le_of_ble_eq_true rfl) _ rfl (fun z27 I28 h => ?_)
        obtain ⟨hr29, h⟩ := h
        obtain ⟨hA30, hB31⟩ := h
        refine x_if_eq (pc := 78) 100 dX6_findBest_78 (by decide) hr29 (fun hc => ?_) (fun hc => ?_)
        · have h := hA30 hc
          refine x_aload_n (pc := 100) 0 dX6_findBest_100 rfl ?_
          refine x_iload_n (pc := 101) 2 dX6_findBest_101 rfl ?_
          refine x_iload_n (pc := 102) 3 dX6_findBest_102 rfl ?_
          refine x_Vv (μ := m_X6_findBest) (pc := 103) dX6_findBest_103 h k_X6_exchange ml_X6_241 ⟨Nat.le_of_ble_eq_true rfl, Nat.le_of_ble_eq_true rfl⟩ ⟨rfl, rfl⟩ ⟨Nat.zero_le _, Nat.zero_le _⟩ rfl (LM_ob hM) rfl (Nat.le_of_ble_eq_true rfl) _ rfl (fun I32 h => ?_)
          refine x_iinc (pc := 106) (al' := [(0, vR 1), (1, vI x1), (2, vI x2), (3, vI (x3 + 1)), (4, vI z16), (5, vI z18)]) 3 dX6_findBest_106 rfl rfl rfl (Nat.le_of_ble_eq_true rfl) ?_
          refine x_goto (pc := 109) 16 dX6_findBest_109 (by decide) ?_
          exact x_sub [0, 1, 2, 3] rfl h
        · have h := hB31 hc
          refine x_bipush (pc := 81) dX6_findBest_81 rfl ?_
          refine x_iload_n (pc := 83) 2 dX6_findBest_83 rfl ?_
          refine x_imul (pc := 84) dX6_findBest_84 ?_
          refine x_iload_n (pc := 85) 3 dX6_findBest_85 rfl ?_
          refine x_iadd (pc := 86) dX6_findBest_86 ?_
          refine x_nmT (fun u33 eu33 => ?_)
          have h := h u33 eu33
          refine x_istore_n (pc := 87) (al' := [(0, vR 1), (1, vI u33), (2, vI x2), (3, vI x3), (4, vI z16), (5, vI z18)]) dX6_findBest_87 rfl rfl (Nat.le_of_ble_eq_true rfl) ?_
          refine x_aload_n (pc := 88) 0 dX6_findBest_88 rfl ?_
          refine x_iload (pc := 89) 4 dX6_findBest_89 rfl ?_
          refine x_putI (pc := 91) dX6_findBest_91 FC6 21 (by decide) rfl rfl fl_X6_253 (LM_ob hM) ?_
          refine x_nmI (fun I34 eI34 => ?_)
          have h := h I34 eI34
          refine x_aload_n (pc := 94) 0 dX6_findBest_94 rfl ?_
          refine x_iload (pc := 95) 5 dX6_findBest_95 rfl ?_
          refine x_putI (pc := 97) dX6_findBest_97 FC6 22 (by decide) rfl rfl fl_X6_256 (LM_ob hM) ?_
          refine x_nmI (fun I35 eI35 => ?_)
          have h := h I35 eI35
          refine x_aload_n (pc := 100) 0 dX6_findBest_100 rfl ?_
          refine x_iload_n (pc := 101) 2 dX6_findBest_101 rfl ?_
          refine x_iload_n (pc := 102) 3 dX6_findBest_102 rfl ?_
          refine x_Vv (μ := m_X6_findBest) (pc := 103) dX6_findBest_103 h k_X6_exchange ml_X6_241 ⟨Nat.le_of_ble_eq_true rfl, Nat.le_of_ble_eq_true rfl⟩ ⟨rfl, rfl⟩ ⟨Nat.zero_le _, Nat.zero_le _⟩ rfl (LM_ob hM) rfl (Nat.le_of_ble_eq_true rfl) _ rfl (fun I36 h => ?_)
          refine x_iinc (pc := 106) (al' := [(0, vR 1), (1, vI u33), (2, vI x2), (3, vI (x3 + 1)), (4, vI z16), (5, vI z18)]) 3 dX6_findBest_106 rfl rfl rfl (Nat.le_of_ble_eq_true rfl) ?_
          refine x_goto (pc := 109) 16 dX6_findBest_109 (by decide) ?_
          exact x_sub [0, 1, 2, 3] rfl h
set_option maxRecDepth 100000 in
set_option maxHeartbeats 4000000 in
theorem t_X6_isBetter_0 {Γ : GG} {P : MP} {I : MM} {R : Int → MM → Prop} {x0 x1 x2 x3 : Int} 
    (h : (inR x0) ∧ (inR x2) ∧ ((x0 = x2 → (inR x1) ∧ (inR x3) ∧ ((x3 ≤ x1 → R 0 I) ∧ (¬ x3 ≤ x1 → R 1 I))) ∧ (¬ x0 = x2 → ((x2 ≤ x0 → R 0 I) ∧ (¬ x2 ≤ x0 → R 1 I))))) :
    XM Γ m_X6_isBetter 0 0 0 [(0, vI x0), (1, vI x1), (2, vI x2), (3, vI x3)] [] P I (ri P R) := by
  refine x_iload_n (pc := 0) 0 dX6_isBetter_0 rfl ?_
  refine x_iload_n (pc := 1) 2 dX6_isBetter_1 rfl ?_
  obtain ⟨hr1, h⟩ := h
  obtain ⟨hr2, h⟩ := h
  obtain ⟨hA3, hB4⟩ := h
  refine x_icmp_eq (pc := 2) 18 dX6_isBetter_2 (by decide) hr1 hr2 (fun hc => ?_) (fun hc => ?_)
  · have h := hA3 hc
    refine x_iload_n (pc := 18) 1 dX6_isBetter_18 rfl ?_
    refine x_iload_n (pc := 19) 3 dX6_isBetter_19 rfl ?_
    obtain ⟨hr5, h⟩ := h
    obtain ⟨hr6, h⟩ := h
    obtain ⟨hA7, hB8⟩ := h
    refine x_icmp_ge (pc := 20) 27 dX6_isBetter_20 (by decide) hr5 hr6 (fun hc => ?_) (fun hc => ?_)
    · have h := hA7 hc
      refine x_iconst (pc := 27) dX6_isBetter_27 ?_
      exact x_zret (pc := 28) dX6_isBetter_28 rfl (by decide) (Nat.le_refl _) (Nat.le_refl _) ⟨_, rfl, rfl, h⟩
    · have h := hB8 hc
      refine x_iconst (pc := 23) dX6_isBetter_23 ?_
      refine x_goto (pc := 24) 28 dX6_isBetter_24 (by decide) ?_
      exact x_zret (pc := 28) dX6_isBetter_28 rfl (by decide) (Nat.le_refl _) (Nat.le_refl _) ⟨_, rfl, rfl, h⟩
  · have h := hB4 hc
    refine x_iload_n (pc := 5) 0 dX6_isBetter_5 rfl ?_
    refine x_iload_n (pc := 6) 2 dX6_isBetter_6 rfl ?_
    obtain ⟨hA9, hB10⟩ := h
    refine x_icmp_ge (pc := 7) 14 dX6_isBetter_7 (by decide) hr1 hr2 (fun hc => ?_) (fun hc => ?_)
    · have h := hA9 hc
      refine x_iconst (pc := 14) dX6_isBetter_14 ?_
      refine x_goto (pc := 15) 28 dX6_isBetter_15 (by decide) ?_
      exact x_zret (pc := 28) dX6_isBetter_28 rfl (by decide) (Nat.le_refl _) (Nat.le_refl _) ⟨_, rfl, rfl, h⟩
    · have h := hB10 hc
      refine x_iconst (pc := 10) dX6_isBetter_10 ?_
      refine x_goto (pc := 11) 28 dX6_isBetter_11 (by decide) ?_
      exact x_zret (pc := 28) dX6_isBetter_28 rfl (by decide) (Nat.le_refl _) (Nat.le_refl _) ⟨_, rfl, rfl, h⟩
set_option maxRecDepth 100000 in
set_option maxHeartbeats 4000000 in
theorem t_X6_findPath_0 {Γ : GG} {P : MP} {I : MM} {R : MM → Prop} (hM : LM Γ P)
    (h : (Cl Γ m_X6_findStarts [vR 1] P I (ri P (fun (z1 : Int) (I2 : MM) => (∀ I3 : MM, I3 = up2 I2 1 24 0 → (∀ u4 : Int, u4 = ((I3 3 2) - 1) → XM Γ m_X6_findPath 0 0 21 [(0, vR 1), (1, vI z1), (2, vI (-1)), (3, vI u4)] [] P I3 (rv P R))))))) :
    XM Γ m_X6_findPath 0 0 0 [(0, vR 1)] [] P I (rv P R) := by
  refine x_aload_n (pc := 0) 0 dX6_findPath_0 rfl ?_
  refine x_Vi (μ := m_X6_findPath) (pc := 1) dX6_findPath_1 h k_X6_findStarts ml_X6_217 ⟨Nat.le_of_ble_eq_true rfl, Nat.le_of_ble_eq_true rfl⟩ ⟨rfl, rfl⟩ ⟨Nat.zero_le _, Nat.zero_le _⟩ rfl (LM_ob hM) rfl (Nat.le_of_ble_eq_true rfl) _ rfl (fun z1 I2 h => ?_)
  refine x_istore_n (pc := 4) (al' := [(0, vR 1), (1, vI z1)]) dX6_findPath_4 rfl rfl (Nat.le_of_ble_eq_true rfl) ?_
  refine x_aload_n (pc := 5) 0 dX6_findPath_5 rfl ?_
  refine x_iconst (pc := 6) dX6_findPath_6 ?_
  refine x_putI (pc := 7) dX6_findPath_7 FC6 24 (by decide) rfl rfl fl_X6_263 (LM_ob hM) ?_
  refine x_nmI (fun I3 eI3 => ?_)
  have h := h I3 eI3
  refine x_iconst (pc := 10) dX6_findPath_10 ?_
  refine x_istore_n (pc := 11) (al' := [(0, vR 1), (1, vI z1), (2, vI (-1))]) dX6_findPath_11 rfl rfl (Nat.le_of_ble_eq_true rfl) ?_
  refine x_aload_n (pc := 12) 0 dX6_findPath_12 rfl ?_
  refine x_getP (pc := 13) dX6_findPath_13 FC6 8 (by decide) rfl fl_X6_17 (LM_ob hM) (LM_p8 hM) ?_
  refine x_iconst (pc := 16) dX6_findPath_16 ?_
  refine x_iald (pc := 17) dX6_findPath_17 (LM_a8 hM) (by decide) (by decide) (by decide) ?_
  refine x_iconst (pc := 18) dX6_findPath_18 ?_
  refine x_isub (pc := 19) dX6_findPath_19 ?_
  refine x_nmT (fun u4 eu4 => ?_)
  have h := h u4 eu4
  refine x_istore_n (pc := 20) (al' := [(0, vR 1), (1, vI z1), (2, vI (-1)), (3, vI u4)]) dX6_findPath_20 rfl rfl (Nat.le_of_ble_eq_true rfl) ?_
  exact x_sub [0, 1, 2, 3] rfl h
set_option maxRecDepth 100000 in
set_option maxHeartbeats 4000000 in
theorem t_X6_findPath_21 {Γ : GG} {P : MP} {I : MM} {R : MM → Prop} {x1 x2 x3 : Int} (hM : LM Γ P)
    (h : (inR x3) ∧ ((x3 < 0 → XM Γ m_X6_findPath 0 0 62 [(0, vR 1), (1, vI x1), (2, vI x2)] [] P I (rv P R)) ∧ (¬ x3 < 0 → (Cl Γ m_X6_completionOf [vR 1, vI x3] P I (ri P (fun (z4 : Int) (I5 : MM) => (Cl Γ m_X6_makespanOf [vR 1] P I5 (ri P (fun (z6 : Int) (I7 : MM) => (inR z4) ∧ (inR z6) ∧ ((z4 ≠ z6 → XM Γ m_X6_findPath 0 0 21 [(0, vR 1), (1, vI x1), (2, vI x2), (3, vI (x3 + (-1)))] [] P I7 (rv P R)) ∧ (z4 = z6 → (Cl Γ m_X6_job [vI x3] P I7 (ri P (fun (z12 : Int) (I13 : MM) => (0 ≤ (z12 + 3)) ∧ ((z12 + 3) < 1655) ∧ (∀ u16 : Int, u16 = (((6 * x3) + (I13 3 ((z12 + 3)).toNat)) - 1) → XM Γ m_X6_findPath 0 0 21 [(0, vR 1), (1, vI x1), (2, vI u16), (3, vI (x3 + (-1)))] [] P I13 (rv P R)))))))))))))))) :
    XM Γ m_X6_findPath 0 0 21 [(0, vR 1), (1, vI x1), (2, vI x2), (3, vI x3)] [] P I (rv P R) := by
  refine x_iload_n (pc := 21) 3 dX6_findPath_21 rfl ?_
  obtain ⟨hr1, h⟩ := h
  obtain ⟨hA2, hB3⟩ := h
  refine x_if_lt (pc := 22) 62 dX6_findPath_22 (by decide) hr1 (fun hc => ?_) (fun hc => ?_)
  · have h := hA2 hc
    exact x_sub [0, 1, 2] rfl h
  · have h := hB3 hc
    refine x_aload_n (pc := 25) 0 dX6_findPath_25 rfl ?_
    refine x_iload_n (pc := 26) 3 dX6_findPath_26 rfl ?_
    refine x_Vi (μ := m_X6_findPath) (pc := 27) dX6_findPath_27 h k_X6_completionOf ml_X6_223 ⟨Nat.le_of_ble_eq_true rfl, Nat.le_of_ble_eq_true rfl⟩ ⟨rfl, rfl⟩ ⟨Nat.zero_le _, Nat.zero_le _⟩ rfl (LM_ob hM) rfl (Nat.le_of_ble_eq_true rfl) _ rfl (fun z4 I5 h => ?_)
    refine x_aload_n (pc := 30) 0 dX6_findPath_30 rfl ?_
    refine x_Vi (μ := m_X6_findPath) (pc := 31) dX6_findPath_31 h k_X6_makespanOf ml_X6_247 ⟨Nat.le_of_ble_eq_true rfl, Nat.le_of_ble_eq_true rfl⟩ ⟨rfl, rfl⟩ ⟨Nat.zero_le _, Nat.zero_le _⟩ rfl (LM_ob hM) rfl (Nat.le_of_ble_eq_true rfl) _ rfl (fun z6 I7 h => ?_)
    obtain ⟨hr8, h⟩ := h
    obtain ⟨hr9, h⟩ := h
    obtain ⟨hA10, hB11⟩ := h
    refine x_icmp_ne (pc := 34) 56 dX6_findPath_34 (by decide) hr8 hr9 (fun hc => ?_) (fun hc => ?_)
    · have h := hA10 hc
      refine x_iinc (pc := 56) (al' := [(0, vR 1), (1, vI x1), (2, vI x2), (3, vI (x3 + (-1)))]) 3 dX6_findPath_56 rfl rfl rfl (Nat.le_of_ble_eq_true rfl) ?_
      refine x_goto (pc := 59) 21 dX6_findPath_59 (by decide) ?_
      exact x_sub [0, 1, 2, 3] rfl h
    · have h := hB11 hc
      refine x_bipush (pc := 37) dX6_findPath_37 rfl ?_
      refine x_iload_n (pc := 39) 3 dX6_findPath_39 rfl ?_
      refine x_imul (pc := 40) dX6_findPath_40 ?_
      refine x_aload_n (pc := 41) 0 dX6_findPath_41 rfl ?_
      refine x_getP (pc := 42) dX6_findPath_42 FC6 8 (by decide) rfl fl_X6_17 (LM_ob hM) (LM_p8 hM) ?_
      refine x_iload_n (pc := 45) 3 dX6_findPath_45 rfl ?_
      refine x_Si (μ := m_X6_findPath) (pc := 46) dX6_findPath_46 h k_X6_job ml_X6_147 ⟨Nat.le_of_ble_eq_true rfl, Nat.le_of_ble_eq_true rfl⟩ ⟨rfl, rfl⟩ ⟨Nat.zero_le _, Nat.zero_le _⟩ rfl (Nat.le_of_ble_eq_true rfl) _ rfl (fun z12 I13 h => ?_)
      refine x_iconst (pc := 49) dX6_findPath_49 ?_
      refine x_iadd (pc := 50) dX6_findPath_50 ?_
      obtain ⟨hv14, h⟩ := h
      obtain ⟨hv15, h⟩ := h
      refine x_iald (pc := 51) dX6_findPath_51 (LM_a8 hM) hv14 hv15 (by decide) ?_
      refine x_iadd (pc := 52) dX6_findPath_52 ?_
      refine x_iconst (pc := 53) dX6_findPath_53 ?_
      refine x_isub (pc := 54) dX6_findPath_54 ?_
      refine x_nmT (fun u16 eu16 => ?_)
      have h := h u16 eu16
      refine x_istore_n (pc := 55) (al' := [(0, vR 1), (1, vI x1), (2, vI u16), (3, vI x3)]) dX6_findPath_55 rfl rfl (Nat.le_of_ble_eq_true rfl) ?_
      refine x_iinc (pc := 56) (al' := [(0, vR 1), (1, vI x1), (2, vI u16), (3, vI (x3 + (-1)))]) 3 dX6_findPath_56 rfl rfl rfl (Nat.le_of_ble_eq_true rfl) ?_
      refine x_goto (pc := 59) 21 dX6_findPath_59 (by decide) ?_
      exact x_sub [0, 1, 2, 3] rfl h
set_option maxRecDepth 100000 in
set_option maxHeartbeats 4000000 in
theorem t_X6_findPath_62 {Γ : GG} {P : MP} {I : MM} {R : MM → Prop} {x1 x2 : Int} (hM : LM Γ P)
    (h : (inR x1) ∧ ((x1 = 0 → R I) ∧ (¬ x1 = 0 → (inR x2) ∧ ((x2 = (-1) → R I) ∧ (¬ x2 = (-1) → (Cl Γ m_X6_isOnPath [vR 1, vI x2] P I (ri P (fun (z7 : Int) (I8 : MM) => (inR z7) ∧ ((z7 ≠ 0 → R I8) ∧ (z7 = 0 → (0 ≤ (I8 1 24)) ∧ ((I8 1 24) < 36) ∧ (∀ I14 : MM, I14 = up2 I8 12 ((I8 1 24)).toNat x2 → (∀ I15 : MM, I15 = up2 I14 1 24 ((I14 1 24) + 1) → (0 ≤ x2) ∧ (inR (x2 % 6)) ∧ (((x2 % 6) ≠ 0 → (0 ≤ (x2 - 1)) ∧ ((x2 - 1) < 36) ∧ (Cl Γ m_X6_durationOf [vR 1, vI (x2 - 1)] P I15 (ri P (fun (z22 : Int) (I23 : MM) => (x2 < 36) ∧ (inR ((I15 9 ((x2 - 1)).toNat) + z22)) ∧ (inR (I23 9 (x2).toNat)) ∧ ((((I15 9 ((x2 - 1)).toNat) + z22) ≠ (I23 9 (x2).toNat) → (∀ u29 : Int, u29 = (I23 7 (x2).toNat) → XM Γ m_X6_findPath 0 0 62 [(0, vR 1), (1, vI x1), (2, vI u29)] [] P I23 (rv P R))) ∧ (((I15 9 ((x2 - 1)).toNat) + z22) = (I23 9 (x2).toNat) → (∀ u30 : Int, u30 = (x2 - 1) → XM Γ m_X6_findPath 0 0 62 [(0, vR 1), (1, vI x1), (2, vI u30)] [] P I23 (rv P R)))))))) ∧ ((x2 % 6) = 0 → (x2 < 36) ∧ (Cl Γ m_X6_job [vI (x2 / 6)] P I15 (ri P (fun (z32 : Int) (I33 : MM) => (0 ≤ z32) ∧ (z32 < 1655) ∧ (inR (I15 9 (x2).toNat)) ∧ (inR (I33 3 (z32).toNat)) ∧ (((I15 9 (x2).toNat) ≠ (I33 3 (z32).toNat) → (∀ u40 : Int, u40 = (I33 7 (x2).toNat) → XM Γ m_X6_findPath 0 0 62 [(0, vR 1), (1, vI x1), (2, vI u40)] [] P I33 (rv P R))) ∧ ((I15 9 (x2).toNat) = (I33 3 (z32).toNat) → R I33))))))))))))))))))) :
    XM Γ m_X6_findPath 0 0 62 [(0, vR 1), (1, vI x1), (2, vI x2)] [] P I (rv P R) := by
  refine x_iload_n (pc := 62) 1 dX6_findPath_62 rfl ?_
  obtain ⟨hr1, h⟩ := h
  obtain ⟨hA2, hB3⟩ := h
  refine x_if_eq (pc := 63) 183 dX6_findPath_63 (by decide) hr1 (fun hc => ?_) (fun hc => ?_)
  · have h := hA2 hc
    exact x_vret (pc := 183) dX6_findPath_183 rfl (Nat.le_refl _) (Nat.le_refl _) ⟨rfl, rfl, h⟩
  · have h := hB3 hc
    refine x_iload_n (pc := 66) 2 dX6_findPath_66 rfl ?_
    refine x_iconst (pc := 67) dX6_findPath_67 ?_
    obtain ⟨hr4, h⟩ := h
    obtain ⟨hA5, hB6⟩ := h
    refine x_icmp_eq (pc := 68) 183 dX6_findPath_68 (by decide) hr4 ⟨by decide, by decide⟩ (fun hc => ?_) (fun hc => ?_)
    · have h := hA5 hc
      exact x_vret (pc := 183) dX6_findPath_183 rfl (Nat.le_refl _) (Nat.le_refl _) ⟨rfl, rfl, h⟩
    · have h := hB6 hc
      refine x_aload_n (pc := 71) 0 dX6_findPath_71 rfl ?_
      refine x_iload_n (pc := 72) 2 dX6_findPath_72 rfl ?_
      refine x_Vi (μ := m_X6_findPath) (pc := 73) dX6_findPath_73 h k_X6_isOnPath ml_X6_266 ⟨Nat.le_of_ble_eq_true rfl, Nat.le_of_ble_eq_true rfl⟩ ⟨rfl, rfl⟩ ⟨Nat.zero_le _, Nat.zero_le _⟩ rfl (LM_ob hM) rfl (Nat.le_of_ble_eq_true rfl) _ rfl (fun z7 I8 h => ?_)
      obtain ⟨hr9, h⟩ := h
      obtain ⟨hA10, hB11⟩ := h
      refine x_if_ne (pc := 76) 183 dX6_findPath_76 (by decide) hr9 (fun hc => ?_) (fun hc => ?_)
      · have h := hA10 hc
        exact x_vret (pc := 183) dX6_findPath_183 rfl (Nat.le_refl _) (Nat.le_refl _) ⟨rfl, rfl, h⟩
      · have h := hB11 hc
        refine x_aload_n (pc := 79) 0 dX6_findPath_79 rfl ?_
        refine x_getP (pc := 80) dX6_findPath_80 FC6 23 (by decide) rfl fl_X6_48 (LM_ob hM) (LM_p23 hM) ?_
        refine x_aload_n (pc := 83) 0 dX6_findPath_83 rfl ?_
        refine x_getI (pc := 84) dX6_findPath_84 FC6 24 (by decide) rfl fl_X6_263 (LM_ob hM) ?_
        refine x_iload_n (pc := 87) 2 dX6_findPath_87 rfl ?_
        obtain ⟨hv12, h⟩ := h
        obtain ⟨hv13, h⟩ := h
        refine x_iast (pc := 88) dX6_findPath_88 (LM_a23 hM) hv12 hv13 (by decide) ?_
        refine x_nmI (fun I14 eI14 => ?_)
        have h := h I14 eI14
        refine x_aload_n (pc := 89) 0 dX6_findPath_89 rfl ?_
        refine x_dup (pc := 90) dX6_findPath_90 rfl ?_
        refine x_getI (pc := 91) dX6_findPath_91 FC6 24 (by decide) rfl fl_X6_263 (LM_ob hM) ?_
        refine x_iconst (pc := 94) dX6_findPath_94 ?_
        refine x_iadd (pc := 95) dX6_findPath_95 ?_
        refine x_putI (pc := 96) dX6_findPath_96 FC6 24 (by decide) rfl rfl fl_X6_263 (LM_ob hM) ?_
        refine x_nmI (fun I15 eI15 => ?_)
        have h := h I15 eI15
        refine x_iload_n (pc := 99) 2 dX6_findPath_99 rfl ?_
        refine x_bipush (pc := 100) dX6_findPath_100 rfl ?_
        obtain ⟨hv16, h⟩ := h
        refine x_irem (pc := 102) dX6_findPath_102 hr4 ⟨by decide, by decide⟩ hv16 (by decide) ?_
        obtain ⟨hr17, h⟩ := h
        obtain ⟨hA18, hB19⟩ := h
        refine x_if_ne (pc := 103) 110 dX6_findPath_103 (by decide) hr17 (fun hc => ?_) (fun hc => ?_)
        · have h := hA18 hc
          refine x_iconst (pc := 110) dX6_findPath_110 ?_
          refine x_istore_n (pc := 111) (al' := [(0, vR 1), (1, vI x1), (2, vI x2), (3, vI 0)]) dX6_findPath_111 rfl rfl (Nat.le_of_ble_eq_true rfl) ?_
          refine x_iload_n (pc := 112) 3 dX6_findPath_112 rfl ?_
          refine x_if_eq (pc := 113) 138 dX6_findPath_113 (by decide) ⟨by decide, by decide⟩ (fun hc => ?_) (fun hc => absurd hc (by decide))
          refine x_iload_n (pc := 138) 3 dX6_findPath_138 rfl ?_
          refine x_if_ne (pc := 139) 173 dX6_findPath_139 (by decide) ⟨by decide, by decide⟩ (fun hc => absurd hc (by decide)) (fun hc => ?_)
          refine x_aload_n (pc := 142) 0 dX6_findPath_142 rfl ?_
          refine x_getP (pc := 143) dX6_findPath_143 FC6 18 (by decide) rfl fl_X6_37 (LM_ob hM) (LM_p18 hM) ?_
          refine x_iload_n (pc := 146) 2 dX6_findPath_146 rfl ?_
          refine x_iconst (pc := 147) dX6_findPath_147 ?_
          refine x_isub (pc := 148) dX6_findPath_148 ?_
          obtain ⟨hv20, h⟩ := h
          obtain ⟨hv21, h⟩ := h
          refine x_iald (pc := 149) dX6_findPath_149 (LM_a18 hM) hv20 hv21 (by decide) ?_
          refine x_aload_n (pc := 150) 0 dX6_findPath_150 rfl ?_
          refine x_iload_n (pc := 151) 2 dX6_findPath_151 rfl ?_
          refine x_iconst (pc := 152) dX6_findPath_152 ?_
          refine x_isub (pc := 153) dX6_findPath_153 ?_
          refine x_Vi (μ := m_X6_findPath) (pc := 154) dX6_findPath_154 h k_X6_durationOf ml_X6_202 ⟨Nat.le_of_ble_eq_true rfl, Nat.le_of_ble_eq_true rfl⟩ ⟨rfl, rfl⟩ ⟨Nat.zero_le _, Nat.zero_le _⟩ rfl (LM_ob hM) rfl (Nat.le_of_ble_eq_true rfl) _ rfl (fun z22 I23 h => ?_)
          refine x_iadd (pc := 157) dX6_findPath_157 ?_
          refine x_aload_n (pc := 158) 0 dX6_findPath_158 rfl ?_
          refine x_getP (pc := 159) dX6_findPath_159 FC6 18 (by decide) rfl fl_X6_37 (LM_ob hM) (LM_p18 hM) ?_
          refine x_iload_n (pc := 162) 2 dX6_findPath_162 rfl ?_
          obtain ⟨hv24, h⟩ := h
          refine x_iald (pc := 163) dX6_findPath_163 (LM_a18 hM) hv16 hv24 (by decide) ?_
          obtain ⟨hr25, h⟩ := h
          obtain ⟨hr26, h⟩ := h
          obtain ⟨hA27, hB28⟩ := h
          refine x_icmp_ne (pc := 164) 173 dX6_findPath_164 (by decide) hr25 hr26 (fun hc => ?_) (fun hc => ?_)
          · have h := hA27 hc
            refine x_aload_n (pc := 173) 0 dX6_findPath_173 rfl ?_
            refine x_getP (pc := 174) dX6_findPath_174 FC6 16 (by decide) rfl fl_X6_31 (LM_ob hM) (LM_p16 hM) ?_
            refine x_iload_n (pc := 177) 2 dX6_findPath_177 rfl ?_
            refine x_iald (pc := 178) dX6_findPath_178 (LM_a16 hM) hv16 hv24 (by decide) ?_
            refine x_nmT (fun u29 eu29 => ?_)
            have h := h u29 eu29
            refine x_istore_n (pc := 179) (al' := [(0, vR 1), (1, vI x1), (2, vI u29), (3, vI 0)]) dX6_findPath_179 rfl rfl (Nat.le_of_ble_eq_true rfl) ?_
            refine x_goto (pc := 180) 62 dX6_findPath_180 (by decide) ?_
            exact x_sub [0, 1, 2] rfl h
          · have h := hB28 hc
            refine x_iload_n (pc := 167) 2 dX6_findPath_167 rfl ?_
            refine x_iconst (pc := 168) dX6_findPath_168 ?_
            refine x_isub (pc := 169) dX6_findPath_169 ?_
            refine x_goto (pc := 170) 179 dX6_findPath_170 (by decide) ?_
            refine x_nmT (fun u30 eu30 => ?_)
            have h := h u30 eu30
            refine x_istore_n (pc := 179) (al' := [(0, vR 1), (1, vI x1), (2, vI u30), (3, vI 0)]) dX6_findPath_179 rfl rfl (Nat.le_of_ble_eq_true rfl) ?_
            refine x_goto (pc := 180) 62 dX6_findPath_180 (by decide) ?_
            exact x_sub [0, 1, 2] rfl h
        · have h := hB19 hc
          refine x_iconst (pc := 106) dX6_findPath_106 ?_
          refine x_goto (pc := 107) 111 dX6_findPath_107 (by decide) ?_
          refine x_istore_n (pc := 111) (al' := [(0, vR 1), (1, vI x1), (2, vI x2), (3, vI 1)]) dX6_findPath_111 rfl rfl (Nat.le_of_ble_eq_true rfl) ?_
          refine x_iload_n (pc := 112) 3 dX6_findPath_112 rfl ?_
          refine x_if_eq (pc := 113) 138 dX6_findPath_113 (by decide) ⟨by decide, by decide⟩ (fun hc => absurd hc (by decide)) (fun hc => ?_)
          refine x_aload_n (pc := 116) 0 dX6_findPath_116 rfl ?_
          refine x_getP (pc := 117) dX6_findPath_117 FC6 18 (by decide) rfl fl_X6_37 (LM_ob hM) (LM_p18 hM) ?_
          refine x_iload_n (pc := 120) 2 dX6_findPath_120 rfl ?_
          obtain ⟨hv31, h⟩ := h
          refine x_iald (pc := 121) dX6_findPath_121 (LM_a18 hM) hv16 hv31 (by decide) ?_
          refine x_aload_n (pc := 122) 0 dX6_findPath_122 rfl ?_
          refine x_getP (pc := 123) dX6_findPath_123 FC6 8 (by decide) rfl fl_X6_17 (LM_ob hM) (LM_p8 hM) ?_
          refine x_iload_n (pc := 126) 2 dX6_findPath_126 rfl ?_
          refine x_bipush (pc := 127) dX6_findPath_127 rfl ?_
          refine x_idiv (pc := 129) dX6_findPath_129 hr4 ⟨by decide, by decide⟩ hv16 (by decide) ?_
          refine x_Si (μ := m_X6_findPath) (pc := 130) dX6_findPath_130 h k_X6_job ml_X6_147 ⟨Nat.le_of_ble_eq_true rfl, Nat.le_of_ble_eq_true rfl⟩ ⟨rfl, rfl⟩ ⟨Nat.zero_le _, Nat.zero_le _⟩ rfl (Nat.le_of_ble_eq_true rfl) _ rfl (fun z32 I33 h => ?_)
          obtain ⟨hv34, h⟩ := h
          obtain ⟨hv35, h⟩ := h
          refine x_iald (pc := 133) dX6_findPath_133 (LM_a8 hM) hv34 hv35 (by decide) ?_
          obtain ⟨hr36, h⟩ := h
          obtain ⟨hr37, h⟩ := h
          obtain ⟨hA38, hB39⟩ := h
          refine x_icmp_ne (pc := 134) 138 dX6_findPath_134 (by decide) hr36 hr37 (fun hc => ?_) (fun hc => ?_)
          · have h := hA38 hc
            refine x_iload_n (pc := 138) 3 dX6_findPath_138 rfl ?_
            refine x_if_ne (pc := 139) 173 dX6_findPath_139 (by decide) ⟨by decide, by decide⟩ (fun hc => ?_) (fun hc => absurd hc (by decide))
            refine x_aload_n (pc := 173) 0 dX6_findPath_173 rfl ?_
            refine x_getP (pc := 174) dX6_findPath_174 FC6 16 (by decide) rfl fl_X6_31 (LM_ob hM) (LM_p16 hM) ?_
            refine x_iload_n (pc := 177) 2 dX6_findPath_177 rfl ?_
            refine x_iald (pc := 178) dX6_findPath_178 (LM_a16 hM) hv16 hv31 (by decide) ?_
            refine x_nmT (fun u40 eu40 => ?_)
            have h := h u40 eu40
            refine x_istore_n (pc := 179) (al' := [(0, vR 1), (1, vI x1), (2, vI u40), (3, vI 1)]) dX6_findPath_179 rfl rfl (Nat.le_of_ble_eq_true rfl) ?_
            refine x_goto (pc := 180) 62 dX6_findPath_180 (by decide) ?_
            exact x_sub [0, 1, 2] rfl h
          · have h := hB39 hc
            exact x_vret (pc := 137) dX6_findPath_137 rfl (Nat.le_refl _) (Nat.le_refl _) ⟨rfl, rfl, h⟩
set_option maxRecDepth 100000 in
set_option maxHeartbeats 4000000 in
theorem t_X6_isOnPath_0 {Γ : GG} {P : MP} {I : MM} {R : Int → MM → Prop} {x1 : Int} (hM : LM Γ P)
    (h : XM Γ m_X6_isOnPath 0 0 2 [(0, vR 1), (1, vI x1), (2, vI 0)] [] P I (ri P R)) :
    XM Γ m_X6_isOnPath 0 0 0 [(0, vR 1), (1, vI x1)] [] P I (ri P R) := by
  refine x_iconst (pc := 0) dX6_isOnPath_0 ?_
  refine x_istore_n (pc := 1) (al' := [(0, vR 1), (1, vI x1), (2, vI 0)]) dX6_isOnPath_1 rfl rfl (Nat.le_of_ble_eq_true rfl) ?_
  exact x_sub [0, 1, 2] rfl h
set_option maxRecDepth 100000 in
set_option maxHeartbeats 4000000 in
theorem t_X6_isOnPath_2 {Γ : GG} {P : MP} {I : MM} {R : Int → MM → Prop} {x1 x2 : Int} (hM : LM Γ P)
    (h : (inR x2) ∧ (inR (I 1 24)) ∧ (((I 1 24) ≤ x2 → R 0 I) ∧ (¬ (I 1 24) ≤ x2 → (0 ≤ x2) ∧ (x2 < 36) ∧ (inR (I 12 (x2).toNat)) ∧ (inR x1) ∧ (((I 12 (x2).toNat) ≠ x1 → XM Γ m_X6_isOnPath 0 0 2 [(0, vR 1), (1, vI x1), (2, vI (x2 + 1))] [] P I (ri P R)) ∧ ((I 12 (x2).toNat) = x1 → R 1 I))))) :
    XM Γ m_X6_isOnPath 0 0 2 [(0, vR 1), (1, vI x1), (2, vI x2)] [] P I (ri P R) := by
  refine x_iload_n (pc := 2) 2 dX6_isOnPath_2 rfl ?_
  refine x_aload_n (pc := 3) 0 dX6_isOnPath_3 rfl ?_
  refine x_getI (pc := 4) dX6_isOnPath_4 FC6 24 (by decide) rfl fl_X6_263 (LM_ob hM) ?_
  obtain ⟨hr1, h⟩ := h
  obtain ⟨hr2, h⟩ := h
  obtain ⟨hA3, hB4⟩ := h
  refine x_icmp_ge (pc := 7) 28 dX6_isOnPath_7 (by decide) hr1 hr2 (fun hc => ?_) (fun hc => ?_)
  · have h := hA3 hc
    refine x_iconst (pc := 28) dX6_isOnPath_28 ?_
    exact x_zret (pc := 29) dX6_isOnPath_29 rfl (by decide) (Nat.le_refl _) (Nat.le_refl _) ⟨_, rfl, rfl, h⟩
  · have h := hB4 hc
    refine x_aload_n (pc := 10) 0 dX6_isOnPath_10 rfl ?_
    refine x_getP (pc := 11) dX6_isOnPath_11 FC6 23 (by decide) rfl fl_X6_48 (LM_ob hM) (LM_p23 hM) ?_
    refine x_iload_n (pc := 14) 2 dX6_isOnPath_14 rfl ?_
    obtain ⟨hv5, h⟩ := h
    obtain ⟨hv6, h⟩ := h
    refine x_iald (pc := 15) dX6_isOnPath_15 (LM_a23 hM) hv5 hv6 (by decide) ?_
    refine x_iload_n (pc := 16) 1 dX6_isOnPath_16 rfl ?_
    obtain ⟨hr7, h⟩ := h
    obtain ⟨hr8, h⟩ := h
    obtain ⟨hA9, hB10⟩ := h
    refine x_icmp_ne (pc := 17) 22 dX6_isOnPath_17 (by decide) hr7 hr8 (fun hc => ?_) (fun hc => ?_)
    · have h := hA9 hc
      refine x_iinc (pc := 22) (al' := [(0, vR 1), (1, vI x1), (2, vI (x2 + 1))]) 2 dX6_isOnPath_22 rfl rfl rfl (Nat.le_of_ble_eq_true rfl) ?_
      refine x_goto (pc := 25) 2 dX6_isOnPath_25 (by decide) ?_
      exact x_sub [0, 1, 2] rfl h
    · have h := hB10 hc
      refine x_iconst (pc := 20) dX6_isOnPath_20 ?_
      exact x_zret (pc := 21) dX6_isOnPath_21 rfl (by decide) (Nat.le_refl _) (Nat.le_refl _) ⟨_, rfl, rfl, h⟩
set_option maxRecDepth 100000 in
set_option maxHeartbeats 4000000 in
theorem t_X6_told_0 {Γ : GG} {P : MP} {I : MM} {R : Int → MM → Prop} {x0 : Int} 
    (h : (inR x0) ∧ (0 ≤ x0) ∧ R ((10 * (x0 / 6)) + (x0 % 6)) I) :
    XM Γ m_X6_told 0 0 0 [(0, vI x0)] [] P I (ri P R) := by
  refine x_bipush (pc := 0) dX6_told_0 rfl ?_
  refine x_iload_n (pc := 2) 0 dX6_told_2 rfl ?_
  refine x_bipush (pc := 3) dX6_told_3 rfl ?_
  obtain ⟨hr1, h⟩ := h
  obtain ⟨hv2, h⟩ := h
  refine x_idiv (pc := 5) dX6_told_5 hr1 ⟨by decide, by decide⟩ hv2 (by decide) ?_
  refine x_imul (pc := 6) dX6_told_6 ?_
  refine x_iload_n (pc := 7) 0 dX6_told_7 rfl ?_
  refine x_bipush (pc := 8) dX6_told_8 rfl ?_
  refine x_irem (pc := 10) dX6_told_10 hr1 ⟨by decide, by decide⟩ hv2 (by decide) ?_
  refine x_iadd (pc := 11) dX6_told_11 ?_
  exact x_iret (pc := 12) dX6_told_12 rfl (Nat.le_refl _) (Nat.le_refl _) ⟨_, rfl, rfl, h⟩
set_option maxRecDepth 100000 in
set_option maxHeartbeats 4000000 in
theorem t_X6_noMachine_0 {Γ : GG} {P : MP} {I : MM} {R : Int → MM → Prop} {x1 : Int} (hM : LM Γ P)
    (h : (Cl Γ m_X6_in [vI x1, vI 0, vI ((I 3 0) - 1)] P I (ri P (fun (z1 : Int) (I2 : MM) => (inR z1) ∧ ((z1 ≠ 0 → (Cl Γ m_X6_fails [vR 1, vI 0, vI 1] P I2 (ri P (fun (z6 : Int) (I7 : MM) => (z6 = 0 ∨ z6 = 1) ∧ R z6 I7)))) ∧ (z1 = 0 → (Cl Γ m_X6_fails [vR 1, vI 1, vI 1] P I2 (ri P (fun (z9 : Int) (I10 : MM) => (z9 = 0 ∨ z9 = 1) ∧ R z9 I10))))))))) :
    XM Γ m_X6_noMachine 0 0 0 [(0, vR 1), (1, vI x1)] [] P I (ri P R) := by
  refine x_aload_n (pc := 0) 0 dX6_noMachine_0 rfl ?_
  refine x_iload_n (pc := 1) 1 dX6_noMachine_1 rfl ?_
  refine x_iconst (pc := 2) dX6_noMachine_2 ?_
  refine x_aload_n (pc := 3) 0 dX6_noMachine_3 rfl ?_
  refine x_getP (pc := 4) dX6_noMachine_4 FC6 8 (by decide) rfl fl_X6_17 (LM_ob hM) (LM_p8 hM) ?_
  refine x_iconst (pc := 7) dX6_noMachine_7 ?_
  refine x_iald (pc := 8) dX6_noMachine_8 (LM_a8 hM) (by decide) (by decide) (by decide) ?_
  refine x_iconst (pc := 9) dX6_noMachine_9 ?_
  refine x_isub (pc := 10) dX6_noMachine_10 ?_
  refine x_Si (μ := m_X6_noMachine) (pc := 11) dX6_noMachine_11 h k_X6_in ml_X6_73 ⟨Nat.le_of_ble_eq_true rfl, Nat.le_of_ble_eq_true rfl⟩ ⟨rfl, rfl⟩ ⟨Nat.zero_le _, Nat.zero_le _⟩ rfl (Nat.le_of_ble_eq_true rfl) _ rfl (fun z1 I2 h => ?_)
  obtain ⟨hr3, h⟩ := h
  obtain ⟨hA4, hB5⟩ := h
  refine x_if_ne (pc := 14) 21 dX6_noMachine_14 (by decide) hr3 (fun hc => ?_) (fun hc => ?_)
  · have h := hA4 hc
    refine x_iconst (pc := 21) dX6_noMachine_21 ?_
    refine x_iconst (pc := 22) dX6_noMachine_22 ?_
    refine x_Vi (μ := m_X6_noMachine) (pc := 23) dX6_noMachine_23 h k_X6_fails ml_X6_174 ⟨Nat.le_of_ble_eq_true rfl, Nat.le_of_ble_eq_true rfl⟩ ⟨rfl, rfl⟩ ⟨Nat.zero_le _, Nat.zero_le _⟩ rfl (LM_ob hM) rfl (Nat.le_of_ble_eq_true rfl) _ rfl (fun z6 I7 h => ?_)
    obtain ⟨hv8, h⟩ := h
    exact x_zret (pc := 26) dX6_noMachine_26 rfl hv8 (Nat.le_refl _) (Nat.le_refl _) ⟨_, rfl, rfl, h⟩
  · have h := hB5 hc
    refine x_iconst (pc := 17) dX6_noMachine_17 ?_
    refine x_goto (pc := 18) 22 dX6_noMachine_18 (by decide) ?_
    refine x_iconst (pc := 22) dX6_noMachine_22 ?_
    refine x_Vi (μ := m_X6_noMachine) (pc := 23) dX6_noMachine_23 h k_X6_fails ml_X6_174 ⟨Nat.le_of_ble_eq_true rfl, Nat.le_of_ble_eq_true rfl⟩ ⟨rfl, rfl⟩ ⟨Nat.zero_le _, Nat.zero_le _⟩ rfl (LM_ob hM) rfl (Nat.le_of_ble_eq_true rfl) _ rfl (fun z9 I10 h => ?_)
    obtain ⟨hv11, h⟩ := h
    exact x_zret (pc := 26) dX6_noMachine_26 rfl hv11 (Nat.le_refl _) (Nat.le_refl _) ⟨_, rfl, rfl, h⟩
set_option maxRecDepth 100000 in
set_option maxHeartbeats 4000000 in
theorem t_X6_noJob_0 {Γ : GG} {P : MP} {I : MM} {R : Int → MM → Prop} {x1 : Int} (hM : LM Γ P)
    (h : (Cl Γ m_X6_in [vI x1, vI 0, vI ((I 3 2) - 1)] P I (ri P (fun (z1 : Int) (I2 : MM) => (inR z1) ∧ ((z1 ≠ 0 → (Cl Γ m_X6_fails [vR 1, vI 0, vI 1] P I2 (ri P (fun (z6 : Int) (I7 : MM) => (z6 = 0 ∨ z6 = 1) ∧ R z6 I7)))) ∧ (z1 = 0 → (Cl Γ m_X6_fails [vR 1, vI 1, vI 1] P I2 (ri P (fun (z9 : Int) (I10 : MM) => (z9 = 0 ∨ z9 = 1) ∧ R z9 I10))))))))) :
    XM Γ m_X6_noJob 0 0 0 [(0, vR 1), (1, vI x1)] [] P I (ri P R) := by
  refine x_aload_n (pc := 0) 0 dX6_noJob_0 rfl ?_
  refine x_iload_n (pc := 1) 1 dX6_noJob_1 rfl ?_
  refine x_iconst (pc := 2) dX6_noJob_2 ?_
  refine x_aload_n (pc := 3) 0 dX6_noJob_3 rfl ?_
  refine x_getP (pc := 4) dX6_noJob_4 FC6 8 (by decide) rfl fl_X6_17 (LM_ob hM) (LM_p8 hM) ?_
  refine x_iconst (pc := 7) dX6_noJob_7 ?_
  refine x_iald (pc := 8) dX6_noJob_8 (LM_a8 hM) (by decide) (by decide) (by decide) ?_
  refine x_iconst (pc := 9) dX6_noJob_9 ?_
  refine x_isub (pc := 10) dX6_noJob_10 ?_
  refine x_Si (μ := m_X6_noJob) (pc := 11) dX6_noJob_11 h k_X6_in ml_X6_73 ⟨Nat.le_of_ble_eq_true rfl, Nat.le_of_ble_eq_true rfl⟩ ⟨rfl, rfl⟩ ⟨Nat.zero_le _, Nat.zero_le _⟩ rfl (Nat.le_of_ble_eq_true rfl) _ rfl (fun z1 I2 h => ?_)
  obtain ⟨hr3, h⟩ := h
  obtain ⟨hA4, hB5⟩ := h
  refine x_if_ne (pc := 14) 21 dX6_noJob_14 (by decide) hr3 (fun hc => ?_) (fun hc => ?_)
  · have h := hA4 hc
    refine x_iconst (pc := 21) dX6_noJob_21 ?_
    refine x_iconst (pc := 22) dX6_noJob_22 ?_
    refine x_Vi (μ := m_X6_noJob) (pc := 23) dX6_noJob_23 h k_X6_fails ml_X6_174 ⟨Nat.le_of_ble_eq_true rfl, Nat.le_of_ble_eq_true rfl⟩ ⟨rfl, rfl⟩ ⟨Nat.zero_le _, Nat.zero_le _⟩ rfl (LM_ob hM) rfl (Nat.le_of_ble_eq_true rfl) _ rfl (fun z6 I7 h => ?_)
    obtain ⟨hv8, h⟩ := h
    exact x_zret (pc := 26) dX6_noJob_26 rfl hv8 (Nat.le_refl _) (Nat.le_refl _) ⟨_, rfl, rfl, h⟩
  · have h := hB5 hc
    refine x_iconst (pc := 17) dX6_noJob_17 ?_
    refine x_goto (pc := 18) 22 dX6_noJob_18 (by decide) ?_
    refine x_iconst (pc := 22) dX6_noJob_22 ?_
    refine x_Vi (μ := m_X6_noJob) (pc := 23) dX6_noJob_23 h k_X6_fails ml_X6_174 ⟨Nat.le_of_ble_eq_true rfl, Nat.le_of_ble_eq_true rfl⟩ ⟨rfl, rfl⟩ ⟨Nat.zero_le _, Nat.zero_le _⟩ rfl (LM_ob hM) rfl (Nat.le_of_ble_eq_true rfl) _ rfl (fun z9 I10 h => ?_)
    obtain ⟨hv11, h⟩ := h
    exact x_zret (pc := 26) dX6_noJob_26 rfl hv11 (Nat.le_refl _) (Nat.le_refl _) ⟨_, rfl, rfl, h⟩
